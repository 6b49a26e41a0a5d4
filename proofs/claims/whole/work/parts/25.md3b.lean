def tX6_printLine_32 (v : SV) (x1 : Int32) (y2_32 : Int32) (y3_32 : Int32) (s : SV) : SV × Int32 := let v_32 := s; let r_5 := fX6_pass v_32 ((v_32 0) 80)
  let r_7 := fX6_keepLine r_5 x1 y3_32
  let w_8 : Int32 := (r_7 0) 24; let w_11 : Int32 := ((upd (upd (r_7 0) 25 w_8) 24 x1) 83) + 1; let w_13 : Int32 := ((upd (upd (upd (r_7 0) 25 w_8) 24 x1) 83 w_11) 84) + y3_32; let w_15 : Int32 := ((upd (upd (upd (upd (r_7 0) 25 w_8) 24 x1) 83 w_11) 84 w_13) 85) + (r_7 8 3); if (r_7 8 5) ≤ ((upd (upd (upd (upd (upd (r_7 0) 25 w_8) 24 x1) 83 w_11) 84 w_13) 85 w_15) 86) then (let w_17 : Int32 := (upd (upd (upd (upd (upd (r_7 0) 25 w_8) 24 x1) 83 w_11) 84 w_13) 85 w_15) 86; (mkM (upd (upd (upd (upd (upd (upd (r_7 0) 25 w_8) 24 x1) 83 w_11) 84 w_13) 85 w_15) 86 w_17) (r_7 1) (r_7 2) (r_7 3) (r_7 4) (r_7 5) (r_7 6) (r_7 7) (r_7 8 0) (r_7 8 1) (r_7 8 2) (r_7 8 3) (r_7 8 4) (r_7 8 5) (r_7 8 6) (r_7 8 7) (r_7 8 8), ((upd (upd (upd (upd (upd (upd (r_7 0) 25 w_8) 24 x1) 83 w_11) 84 w_13) 85 w_15) 86 w_17) 82) - y2_32)) else (let w_20 : Int32 := r_7 8 5; (mkM (upd (upd (upd (upd (upd (upd (r_7 0) 25 w_8) 24 x1) 83 w_11) 84 w_13) 85 w_15) 86 w_20) (r_7 1) (r_7 2) (r_7 3) (r_7 4) (r_7 5) (r_7 6) (r_7 7) (r_7 8 0) (r_7 8 1) (r_7 8 2) (r_7 8 3) (r_7 8 4) (r_7 8 5) (r_7 8 6) (r_7 8 7) (r_7 8 8), ((upd (upd (upd (upd (upd (upd (r_7 0) 25 w_8) 24 x1) 83 w_11) 84 w_13) 85 w_15) 86 w_20) 82) - y2_32))
def tX6_printLine_47 (v : SV) (x1 : Int32) (y2_32 : Int32) (y3_32 : Int32) (d32 : Nat) (y5_47 : Int32) (s : SV) : SV := let v_47 := s; let r_24 := fX6_printPart v_47 x1 y5_47
  let r_26 := fX6_pass r_24.1 ((r_24.2 / 10) + 1)
  r_26
def bX6_printLine_47 (v : SV) (x1 : Int32) (y2_32 : Int32) (y3_32 : Int32) (d32 : Nat) (y5_47 : Int32) (s : SV) : Bool × (SV) := let v_47 := s; if (fX6_isCool v_47 x1 y5_47) = 0 then (let r_30 := fX6_pass v_47 1
  let w_31 : Int32 := (r_30 8 3) + 1; (true, mkM (r_30 0) (r_30 1) (r_30 2) (r_30 3) (r_30 4) (r_30 5) (r_30 6) (r_30 7) (r_30 8 0) (r_30 8 1) (r_30 8 2) w_31 (r_30 8 4) (r_30 8 5) (r_30 8 6) (r_30 8 7) (r_30 8 8))) else ((false, v_47))
def bX6_printLine_32 (v : SV) (x1 : Int32) (y2_32 : Int32) (y3_32 : Int32) (d32 : Nat) (s : SV) : SV := let v_32 := s; tX6_printLine_47 v x1 y2_32 y3_32 d32 (fX6_dotsOfPart v_32 x1 (nI d32)) (lpB (mT + 1) (bX6_printLine_47 v x1 y2_32 y3_32 d32 (fX6_dotsOfPart v_32 x1 (nI d32))) v_32)
def fX6_printLine (v : SV) (x1 : Int32) : SV × Int32 := tX6_printLine_32 v x1 ((v 0) 82) (fX6_partsOf v x1) (lpF ((fX6_partsOf v x1).toNatClampNeg) 0 (bX6_printLine_32 v x1 ((v 0) 82) (fX6_partsOf v x1)) (mkM (v 0) (v 1) (v 2) (v 3) (v 4) (v 5) (v 6) (v 7) (v 8 0) (v 8 1) (v 8 2) 0 0 0 (v 8 6) (v 8 7) (v 8 8)))
def bbP (r : SV) : SV := mkM (r 0) (r 1) (r 2) (r 3) (r 4) (r 5) (r 6) (r 7) (r 8 0) (r 8 1) (r 8 2) ((r 8 3) + 1) (r 8 4) (r 8 5) (r 8 6) (r 8 7) (r 8 8)
theorem pl47_eq (v : SV) (x1 y2 y3 : Int32) (d : Nat) (y5 : Int32) (w : SV) : bX6_printLine_47 v x1 y2 y3 d y5 w = if fX6_isCool w x1 y5 = 0 then (true, bbP (fX6_pass w 1)) else (false, w) := rfl
theorem ite_go {σ : Type} {c : Prop} [Decidable c] {a b t : σ} (e : t = if c then a else b) (h : c) : t = a := e.trans (if_pos h)
theorem pl47_aux {f : Bool × SV} {w r : SV} (h3 : f = (true, bbP r)) (h1 : EqS (w 0) (r 0)) (h2 : ∀ j, j < 24 → (r 0 j).toNatClampNeg ≤ (w 0 j).toNatClampNeg - 1) : ∃ w2, f = (true, w2) ∧ EqS (w 0) (w2 0) ∧ ∀ j, j < 24 → (w2 0 j).toNatClampNeg ≤ (w 0 j).toNatClampNeg - 1 := ⟨bbP r, h3, h1, h2⟩
theorem pl47_go (v : SV) (x1 y2 y3 : Int32) (d : Nat) (y5 : Int32) (w : SV) (hI : SI (w 0)) (h : fX6_isCool w x1 y5 = 0) : ∃ w2, bX6_printLine_47 v x1 y2 y3 d y5 w = (true, w2) ∧ EqS (w 0) (w2 0) ∧ ∀ j, j < 24 → (w2 0 j).toNatClampNeg ≤ (w 0 j).toNatClampNeg - 1 := pl47_aux (ite_go (pl47_eq v x1 y2 y3 d y5 w) h) (S_pass w 1) (fun j hj => pass_1 hI j hj)
theorem pl47_no (v : SV) (x1 y2 y3 : Int32) (d : Nat) (y5 : Int32) (w : SV) (h : ¬ fX6_isCool w x1 y5 = 0) : bX6_printLine_47 v x1 y2 y3 d y5 w = (false, w) := by
  rw [pl47_eq, if_neg h]
theorem lpT_no {σ : Type} {n : Nat} {g : σ → Bool × σ} {s t : σ} (h : g s = (false, t)) : lpT (n + 1) g s := Or.inl (by rw [h])
theorem lpT_yes {σ : Type} {n : Nat} {g : σ → Bool × σ} {s t : σ} (h : g s = (true, t)) (h2 : lpT n g t) : lpT (n + 1) g s := Or.inr (by rw [h]; exact h2)
theorem T_printLine_N (v : SV) (x1 y2 y3 : Int32) (d : Nat) (y5 : Int32) : ∀ (n : Nat) (w : SV), SI (w 0) → (∀ j, j < 24 → (w 0 j).toNatClampNeg ≤ n) → lpT (n + 1) (bX6_printLine_47 v x1 y2 y3 d y5) w := by
  intro n
  induction n with
  | zero =>
    intro w hI hh
    have e := isCool_1 hI (fun j hj => Nat.le_zero.mp (hh j hj)) x1 y5
    exact lpT_no (pl47_no v x1 y2 y3 d y5 w (by rw [e]; decide))
  | succ n ih =>
    intro w hI hh
    by_cases q : fX6_isCool w x1 y5 = 0
    · obtain ⟨w2, e, h1, h2⟩ := pl47_go v x1 y2 y3 d y5 w hI q
      refine lpT_yes e (ih w2 (SI_congr h1 hI) (fun j hj => ?_))
      have := h2 j hj
      have := hh j hj
      omega
    · exact lpT_no (pl47_no v x1 y2 y3 d y5 w q)
theorem T_printLine (v : SV) (x1 y2 y3 : Int32) (d : Nat) (y5 : Int32) (w : SV) (hI : SI (w 0)) : lpT (mT + 1) (bX6_printLine_47 v x1 y2 y3 d y5) w := T_printLine_N v x1 y2 y3 d y5 mT w hI (fun j _ => Nat.le_of_lt (cl_lt _))
theorem KKr {v v2 : SV} {x y : Int32} (hI : SI (v 0) ∧ fX6_partsOf v x = y) (h : EqS (v 0) (v2 0)) : SI (v2 0) ∧ fX6_partsOf v2 x = y := KK h hI
theorem dX6_printLine_0 : decode cX6_printLine 0 = .ok (.aload_n 0, 1) := by decide +kernel
theorem dX6_printLine_1 : decode cX6_printLine 1 = .ok (.getfield 7, 3) := by decide +kernel
theorem dX6_printLine_4 : decode cX6_printLine 4 = .ok (.bipush 82, 2) := by decide +kernel
theorem dX6_printLine_6 : decode cX6_printLine 6 = .ok (.iaload, 1) := by decide +kernel
theorem dX6_printLine_7 : decode cX6_printLine 7 = .ok (.istore_n 2, 1) := by decide +kernel
theorem dX6_printLine_8 : decode cX6_printLine 8 = .ok (.aload_n 0, 1) := by decide +kernel
theorem dX6_printLine_9 : decode cX6_printLine 9 = .ok (.iload_n 1, 1) := by decide +kernel
theorem dX6_printLine_10 : decode cX6_printLine 10 = .ok (.invokevirtual 75, 3) := by decide +kernel
theorem dX6_printLine_13 : decode cX6_printLine 13 = .ok (.istore_n 3, 1) := by decide +kernel
theorem dX6_printLine_14 : decode cX6_printLine 14 = .ok (.aload_n 0, 1) := by decide +kernel
theorem dX6_printLine_15 : decode cX6_printLine 15 = .ok (.iconst 0, 1) := by decide +kernel
theorem dX6_printLine_16 : decode cX6_printLine 16 = .ok (.putfield 90, 3) := by decide +kernel
theorem dX6_printLine_19 : decode cX6_printLine 19 = .ok (.aload_n 0, 1) := by decide +kernel
theorem dX6_printLine_20 : decode cX6_printLine 20 = .ok (.iconst 0, 1) := by decide +kernel
theorem dX6_printLine_21 : decode cX6_printLine 21 = .ok (.putfield 87, 3) := by decide +kernel
theorem dX6_printLine_24 : decode cX6_printLine 24 = .ok (.aload_n 0, 1) := by decide +kernel
theorem dX6_printLine_25 : decode cX6_printLine 25 = .ok (.iconst 0, 1) := by decide +kernel
theorem dX6_printLine_26 : decode cX6_printLine 26 = .ok (.putfield 81, 3) := by decide +kernel
theorem dX6_printLine_29 : decode cX6_printLine 29 = .ok (.iconst 0, 1) := by decide +kernel
theorem dX6_printLine_30 : decode cX6_printLine 30 = .ok (.istore 4, 2) := by decide +kernel
theorem dX6_printLine_32 : decode cX6_printLine 32 = .ok (.iload 4, 2) := by decide +kernel
theorem dX6_printLine_34 : decode cX6_printLine 34 = .ok (.iload_n 3, 1) := by decide +kernel
theorem dX6_printLine_35 : decode cX6_printLine 35 = .ok (.if_icmp .ge 62, 3) := by decide +kernel
theorem dX6_printLine_38 : decode cX6_printLine 38 = .ok (.aload_n 0, 1) := by decide +kernel
theorem dX6_printLine_39 : decode cX6_printLine 39 = .ok (.iload_n 1, 1) := by decide +kernel
theorem dX6_printLine_40 : decode cX6_printLine 40 = .ok (.iload 4, 2) := by decide +kernel
theorem dX6_printLine_42 : decode cX6_printLine 42 = .ok (.invokevirtual 93, 3) := by decide +kernel
theorem dX6_printLine_45 : decode cX6_printLine 45 = .ok (.istore 5, 2) := by decide +kernel
theorem dX6_printLine_47 : decode cX6_printLine 47 = .ok (.aload_n 0, 1) := by decide +kernel
theorem dX6_printLine_48 : decode cX6_printLine 48 = .ok (.iload_n 1, 1) := by decide +kernel
theorem dX6_printLine_49 : decode cX6_printLine 49 = .ok (.iload 5, 2) := by decide +kernel
theorem dX6_printLine_51 : decode cX6_printLine 51 = .ok (.invokevirtual 96, 3) := by decide +kernel
theorem dX6_printLine_54 : decode cX6_printLine 54 = .ok (.ifCond .ne 21, 3) := by decide +kernel
theorem dX6_printLine_57 : decode cX6_printLine 57 = .ok (.aload_n 0, 1) := by decide +kernel
theorem dX6_printLine_58 : decode cX6_printLine 58 = .ok (.iconst 1, 1) := by decide +kernel
theorem dX6_printLine_59 : decode cX6_printLine 59 = .ok (.invokevirtual 100, 3) := by decide +kernel
theorem dX6_printLine_62 : decode cX6_printLine 62 = .ok (.aload_n 0, 1) := by decide +kernel
theorem dX6_printLine_63 : decode cX6_printLine 63 = .ok (.dup, 1) := by decide +kernel
theorem dX6_printLine_64 : decode cX6_printLine 64 = .ok (.getfield 90, 3) := by decide +kernel
theorem dX6_printLine_67 : decode cX6_printLine 67 = .ok (.iconst 1, 1) := by decide +kernel
theorem dX6_printLine_68 : decode cX6_printLine 68 = .ok (.iadd, 1) := by decide +kernel
theorem dX6_printLine_69 : decode cX6_printLine 69 = .ok (.putfield 90, 3) := by decide +kernel
theorem dX6_printLine_72 : decode cX6_printLine 72 = .ok (.goto (-25), 3) := by decide +kernel
theorem dX6_printLine_75 : decode cX6_printLine 75 = .ok (.aload_n 0, 1) := by decide +kernel
theorem dX6_printLine_76 : decode cX6_printLine 76 = .ok (.aload_n 0, 1) := by decide +kernel
theorem dX6_printLine_77 : decode cX6_printLine 77 = .ok (.iload_n 1, 1) := by decide +kernel
theorem dX6_printLine_78 : decode cX6_printLine 78 = .ok (.iload 5, 2) := by decide +kernel
theorem dX6_printLine_80 : decode cX6_printLine 80 = .ok (.invokevirtual 104, 3) := by decide +kernel
theorem dX6_printLine_83 : decode cX6_printLine 83 = .ok (.bipush 10, 2) := by decide +kernel
theorem dX6_printLine_85 : decode cX6_printLine 85 = .ok (.idiv, 1) := by decide +kernel
theorem dX6_printLine_86 : decode cX6_printLine 86 = .ok (.iconst 1, 1) := by decide +kernel
theorem dX6_printLine_87 : decode cX6_printLine 87 = .ok (.iadd, 1) := by decide +kernel
theorem dX6_printLine_88 : decode cX6_printLine 88 = .ok (.invokevirtual 100, 3) := by decide +kernel
theorem dX6_printLine_91 : decode cX6_printLine 91 = .ok (.iinc 4 1, 3) := by decide +kernel
theorem dX6_printLine_94 : decode cX6_printLine 94 = .ok (.goto (-62), 3) := by decide +kernel
theorem dX6_printLine_97 : decode cX6_printLine 97 = .ok (.aload_n 0, 1) := by decide +kernel
theorem dX6_printLine_98 : decode cX6_printLine 98 = .ok (.aload_n 0, 1) := by decide +kernel
theorem dX6_printLine_99 : decode cX6_printLine 99 = .ok (.getfield 7, 3) := by decide +kernel
theorem dX6_printLine_102 : decode cX6_printLine 102 = .ok (.bipush 80, 2) := by decide +kernel
theorem dX6_printLine_104 : decode cX6_printLine 104 = .ok (.iaload, 1) := by decide +kernel
theorem dX6_printLine_105 : decode cX6_printLine 105 = .ok (.invokevirtual 100, 3) := by decide +kernel
theorem dX6_printLine_108 : decode cX6_printLine 108 = .ok (.aload_n 0, 1) := by decide +kernel
theorem dX6_printLine_109 : decode cX6_printLine 109 = .ok (.iload_n 1, 1) := by decide +kernel
theorem dX6_printLine_110 : decode cX6_printLine 110 = .ok (.iload_n 3, 1) := by decide +kernel
theorem dX6_printLine_111 : decode cX6_printLine 111 = .ok (.invokevirtual 107, 3) := by decide +kernel
theorem dX6_printLine_114 : decode cX6_printLine 114 = .ok (.aload_n 0, 1) := by decide +kernel
theorem dX6_printLine_115 : decode cX6_printLine 115 = .ok (.getfield 7, 3) := by decide +kernel
theorem dX6_printLine_118 : decode cX6_printLine 118 = .ok (.bipush 25, 2) := by decide +kernel
theorem dX6_printLine_120 : decode cX6_printLine 120 = .ok (.aload_n 0, 1) := by decide +kernel
theorem dX6_printLine_121 : decode cX6_printLine 121 = .ok (.getfield 7, 3) := by decide +kernel
theorem dX6_printLine_124 : decode cX6_printLine 124 = .ok (.bipush 24, 2) := by decide +kernel
theorem dX6_printLine_126 : decode cX6_printLine 126 = .ok (.iaload, 1) := by decide +kernel
theorem dX6_printLine_127 : decode cX6_printLine 127 = .ok (.iastore, 1) := by decide +kernel
theorem dX6_printLine_128 : decode cX6_printLine 128 = .ok (.aload_n 0, 1) := by decide +kernel
theorem dX6_printLine_129 : decode cX6_printLine 129 = .ok (.getfield 7, 3) := by decide +kernel
theorem dX6_printLine_132 : decode cX6_printLine 132 = .ok (.bipush 24, 2) := by decide +kernel
theorem dX6_printLine_134 : decode cX6_printLine 134 = .ok (.iload_n 1, 1) := by decide +kernel
theorem dX6_printLine_135 : decode cX6_printLine 135 = .ok (.iastore, 1) := by decide +kernel
theorem dX6_printLine_136 : decode cX6_printLine 136 = .ok (.aload_n 0, 1) := by decide +kernel
theorem dX6_printLine_137 : decode cX6_printLine 137 = .ok (.getfield 7, 3) := by decide +kernel
theorem dX6_printLine_140 : decode cX6_printLine 140 = .ok (.bipush 83, 2) := by decide +kernel
theorem dX6_printLine_142 : decode cX6_printLine 142 = .ok (.dup2, 1) := by decide +kernel
theorem dX6_printLine_143 : decode cX6_printLine 143 = .ok (.iaload, 1) := by decide +kernel
theorem dX6_printLine_144 : decode cX6_printLine 144 = .ok (.iconst 1, 1) := by decide +kernel
theorem dX6_printLine_145 : decode cX6_printLine 145 = .ok (.iadd, 1) := by decide +kernel
theorem dX6_printLine_146 : decode cX6_printLine 146 = .ok (.iastore, 1) := by decide +kernel
theorem dX6_printLine_147 : decode cX6_printLine 147 = .ok (.aload_n 0, 1) := by decide +kernel
theorem dX6_printLine_148 : decode cX6_printLine 148 = .ok (.getfield 7, 3) := by decide +kernel
theorem dX6_printLine_151 : decode cX6_printLine 151 = .ok (.bipush 84, 2) := by decide +kernel
theorem dX6_printLine_153 : decode cX6_printLine 153 = .ok (.dup2, 1) := by decide +kernel
theorem dX6_printLine_154 : decode cX6_printLine 154 = .ok (.iaload, 1) := by decide +kernel
theorem dX6_printLine_155 : decode cX6_printLine 155 = .ok (.iload_n 3, 1) := by decide +kernel
theorem dX6_printLine_156 : decode cX6_printLine 156 = .ok (.iadd, 1) := by decide +kernel
theorem dX6_printLine_157 : decode cX6_printLine 157 = .ok (.iastore, 1) := by decide +kernel
theorem dX6_printLine_158 : decode cX6_printLine 158 = .ok (.aload_n 0, 1) := by decide +kernel
theorem dX6_printLine_159 : decode cX6_printLine 159 = .ok (.getfield 7, 3) := by decide +kernel
theorem dX6_printLine_162 : decode cX6_printLine 162 = .ok (.bipush 85, 2) := by decide +kernel
theorem dX6_printLine_164 : decode cX6_printLine 164 = .ok (.dup2, 1) := by decide +kernel
theorem dX6_printLine_165 : decode cX6_printLine 165 = .ok (.iaload, 1) := by decide +kernel
theorem dX6_printLine_166 : decode cX6_printLine 166 = .ok (.aload_n 0, 1) := by decide +kernel
theorem dX6_printLine_167 : decode cX6_printLine 167 = .ok (.getfield 90, 3) := by decide +kernel
theorem dX6_printLine_170 : decode cX6_printLine 170 = .ok (.iadd, 1) := by decide +kernel
theorem dX6_printLine_171 : decode cX6_printLine 171 = .ok (.iastore, 1) := by decide +kernel
theorem dX6_printLine_172 : decode cX6_printLine 172 = .ok (.aload_n 0, 1) := by decide +kernel
theorem dX6_printLine_173 : decode cX6_printLine 173 = .ok (.getfield 7, 3) := by decide +kernel
theorem dX6_printLine_176 : decode cX6_printLine 176 = .ok (.bipush 86, 2) := by decide +kernel
theorem dX6_printLine_178 : decode cX6_printLine 178 = .ok (.aload_n 0, 1) := by decide +kernel
theorem dX6_printLine_179 : decode cX6_printLine 179 = .ok (.getfield 81, 3) := by decide +kernel
theorem dX6_printLine_182 : decode cX6_printLine 182 = .ok (.aload_n 0, 1) := by decide +kernel
theorem dX6_printLine_183 : decode cX6_printLine 183 = .ok (.getfield 7, 3) := by decide +kernel
theorem dX6_printLine_186 : decode cX6_printLine 186 = .ok (.bipush 86, 2) := by decide +kernel
theorem dX6_printLine_188 : decode cX6_printLine 188 = .ok (.iaload, 1) := by decide +kernel
theorem dX6_printLine_189 : decode cX6_printLine 189 = .ok (.if_icmp .le 10, 3) := by decide +kernel
theorem dX6_printLine_192 : decode cX6_printLine 192 = .ok (.aload_n 0, 1) := by decide +kernel
theorem dX6_printLine_193 : decode cX6_printLine 193 = .ok (.getfield 81, 3) := by decide +kernel
theorem dX6_printLine_196 : decode cX6_printLine 196 = .ok (.goto 10, 3) := by decide +kernel
theorem dX6_printLine_199 : decode cX6_printLine 199 = .ok (.aload_n 0, 1) := by decide +kernel
theorem dX6_printLine_200 : decode cX6_printLine 200 = .ok (.getfield 7, 3) := by decide +kernel
theorem dX6_printLine_203 : decode cX6_printLine 203 = .ok (.bipush 86, 2) := by decide +kernel
theorem dX6_printLine_205 : decode cX6_printLine 205 = .ok (.iaload, 1) := by decide +kernel
theorem dX6_printLine_206 : decode cX6_printLine 206 = .ok (.iastore, 1) := by decide +kernel
theorem dX6_printLine_207 : decode cX6_printLine 207 = .ok (.aload_n 0, 1) := by decide +kernel
theorem dX6_printLine_208 : decode cX6_printLine 208 = .ok (.getfield 7, 3) := by decide +kernel
theorem dX6_printLine_211 : decode cX6_printLine 211 = .ok (.bipush 82, 2) := by decide +kernel
theorem dX6_printLine_213 : decode cX6_printLine 213 = .ok (.iaload, 1) := by decide +kernel
theorem dX6_printLine_214 : decode cX6_printLine 214 = .ok (.iload_n 2, 1) := by decide +kernel
theorem dX6_printLine_215 : decode cX6_printLine 215 = .ok (.isub, 1) := by decide +kernel
theorem dX6_printLine_216 : decode cX6_printLine 216 = .ok (.ireturn, 1) := by decide +kernel
set_option maxHeartbeats 1000000 in
set_option maxRecDepth 100000 in
theorem c_X6_printLine (l : Launch) (G : GT) (q : Nat → Nat) (v : SV) (hs : Int64) (x1 : Int32) (hq : mdD G q) (hI : SI (v 0)) : Met l yX6_printLine (Cond.code yX6_printLine cX6_printLine 6 (some .int) :: bigW) ({ frames := 5, cells := 0, slots := 0, locals := 116 }) (BP G [.ref (q 0), .int x1] (fun U H => PW G (mdW G q v hs) H)) (QE (some (.int (fX6_printLine v x1).2)) (fun H => PW G (mdW G q (fX6_printLine v x1).1 hs) H) (mdA q)) 0 0 (mdA q) := by
  refine met_of (by decide) (Nat.le_of_ble_eq_true rfl) ?_
  intro p e s m below meth c ls hC hKN hB0 hl
  have hP := hB0
  have hl : lv_has ls 6 [(0, .ref (q 0)), (1, .int x1)] := hl
  have hS : va_S (mdA q) s.heap s.heap [] := va_S.rf
  have hAL : ∀ a, (mdA q) a → gL G ≤ a := mdD_low hq
  have hg : fX6_printLine v x1 = fX6_printLine v x1 := rfl
  refine lv_aload_n hC.1 hC.2.1 dX6_printLine_0 rfl (lv_at hl 0 rfl) ?_
  refine gf (v := .ref (q 1)) hC fwX6 hKN hP 0 rfl rfl 0 (by decide) rfl wd_887 rfl dX6_printLine_1 ?_
  refine lv_bipush (v := 82) hC.1 hC.2.1 dX6_printLine_4 (by decide +kernel) ?_
  refine iald_k hC hKN hP 1 rfl (n := 124) (f := (v 0)) 82 (rfl) (by omega) (by decide) dX6_printLine_6 ?_
  refine lv_istore_n (lv' := [(2, .int ((v 0) 82)), (0, .ref (q 0)), (1, .int x1)]) hC.1 hC.2.1 dX6_printLine_7 rfl hl (by decide) rfl (fun ls hl => ?_)
  refine lv_aload_n hC.1 hC.2.1 dX6_printLine_8 rfl (lv_at hl 1 rfl) ?_
  refine lv_iload_n hC.1 hC.2.1 dX6_printLine_9 rfl (lv_at hl 2 rfl) ?_
  refine runP (rV (B := fun U H => PW G (mdW G q v hs) H) (As := [.int x1]) (rest := []) hC mwX6_partsOf (c_X6_partsOf l G q v hs x1 hI) iwX6_partsOf wd_981 ⟨rfl, rfl⟩ ⟨Nat.le_of_ble_eq_true rfl, Nat.le_of_ble_eq_true rfl⟩ (stb_h (fun H => PW G (mdW G q v hs) H)) hKN hP (va_recv hKN.k hP (ci := 6) (q0 := 0) rfl rfl) rfl hl.1 rfl (Nat.le_of_ble_eq_true rfl) dX6_printLine_10 ⟨Nat.zero_le _, Nat.zero_le _⟩) ?_
  refine lv_istore_n (lv' := [(3, .int (fX6_partsOf v x1)), (2, .int ((v 0) 82)), (0, .ref (q 0)), (1, .int x1)]) hC.1 hC.2.1 dX6_printLine_13 rfl hl (by decide) rfl (fun ls hl => ?_)
  refine lv_aload_n hC.1 hC.2.1 dX6_printLine_14 rfl (lv_at hl 2 rfl) ?_
  refine lv_iconst (v := 0) hC.1 hC.2.1 dX6_printLine_15 (by decide) ?_
  refine pf (v := .int 0) (tv := .int) hC fwX6 hKN hP (mdD_D hq v hs) hS 0 rfl rfl 7 (by decide) rfl wd_894 rfl rfl rfl (Nat.le_of_ble_eq_true rfl) dX6_printLine_16 (fun H locs hq_1 hS => ?_)
  have hP : PW G (mdW G q (mkM (v 0) (v 1) (v 2) (v 3) (v 4) (v 5) (v 6) (v 7) (v 8 0) (v 8 1) (v 8 2) 0 (v 8 4) (v 8 5) (v 8 6) (v 8 7) (v 8 8)) hs) H := hq_1
  have hI : SI ((mkM (v 0) (v 1) (v 2) (v 3) (v 4) (v 5) (v 6) (v 7) (v 8 0) (v 8 1) (v 8 2) 0 (v 8 4) (v 8 5) (v 8 6) (v 8 7) (v 8 8)) 0) := hI
  refine lv_aload_n hC.1 hC.2.1 dX6_printLine_19 rfl (lv_at hl 2 rfl) ?_
  refine lv_iconst (v := 0) hC.1 hC.2.1 dX6_printLine_20 (by decide) ?_
  refine pf (v := .int 0) (tv := .int) hC fwX6 (hKN.go hAL hS) hP (mdD_D hq (mkM (v 0) (v 1) (v 2) (v 3) (v 4) (v 5) (v 6) (v 7) (v 8 0) (v 8 1) (v 8 2) 0 (v 8 4) (v 8 5) (v 8 6) (v 8 7) (v 8 8)) hs) hS 0 rfl rfl 8 (by decide) rfl wd_895 rfl rfl rfl (Nat.le_of_ble_eq_true rfl) dX6_printLine_21 (fun H locs hq_2 hS => ?_)
  have hP : PW G (mdW G q (mkM (v 0) (v 1) (v 2) (v 3) (v 4) (v 5) (v 6) (v 7) (v 8 0) (v 8 1) (v 8 2) 0 0 (v 8 5) (v 8 6) (v 8 7) (v 8 8)) hs) H := hq_2
  have hI : SI ((mkM (v 0) (v 1) (v 2) (v 3) (v 4) (v 5) (v 6) (v 7) (v 8 0) (v 8 1) (v 8 2) 0 0 (v 8 5) (v 8 6) (v 8 7) (v 8 8)) 0) := hI
  refine lv_aload_n hC.1 hC.2.1 dX6_printLine_24 rfl (lv_at hl 2 rfl) ?_
  refine lv_iconst (v := 0) hC.1 hC.2.1 dX6_printLine_25 (by decide) ?_
  refine pf (v := .int 0) (tv := .int) hC fwX6 (hKN.go hAL hS) hP (mdD_D hq (mkM (v 0) (v 1) (v 2) (v 3) (v 4) (v 5) (v 6) (v 7) (v 8 0) (v 8 1) (v 8 2) 0 0 (v 8 5) (v 8 6) (v 8 7) (v 8 8)) hs) hS 0 rfl rfl 9 (by decide) rfl wd_896 rfl rfl rfl (Nat.le_of_ble_eq_true rfl) dX6_printLine_26 (fun H locs hq_3 hS => ?_)
  have hP : PW G (mdW G q (mkM (v 0) (v 1) (v 2) (v 3) (v 4) (v 5) (v 6) (v 7) (v 8 0) (v 8 1) (v 8 2) 0 0 0 (v 8 6) (v 8 7) (v 8 8)) hs) H := hq_3
  have hI : SI ((mkM (v 0) (v 1) (v 2) (v 3) (v 4) (v 5) (v 6) (v 7) (v 8 0) (v 8 1) (v 8 2) 0 0 0 (v 8 6) (v 8 7) (v 8 8)) 0) := hI
  refine lv_iconst (v := 0) hC.1 hC.2.1 dX6_printLine_29 (by decide) ?_
  refine lv_istore (lv' := [(4, .int 0), (3, .int (fX6_partsOf v x1)), (2, .int ((v 0) 82)), (0, .ref (q 0)), (1, .int x1)]) hC.1 hC.2.1 dX6_printLine_30 hl (by decide) rfl (fun ls hl => ?_)
  have A32 : ∀ (y2_32 : Int32) (y3_32 : Int32), ∀ (v_32 : SV), fX6_printLine v x1 = (tX6_printLine_32 v x1 y2_32 y3_32 v_32) → SI (v_32 0) ∧ fX6_partsOf v_32 x1 = y3_32 → ∀ (H : Heap) (locs : List Loc), PW G (mdW G q v_32 hs) H → va_S (mdA q) s.heap H locs → ∀ (ls : Array Slot), lv_has ls 6 [(0, .ref (q 0)), (1, .int x1), (2, .int y2_32), (3, .int y3_32)] → W p l e ({ frames := 5, cells := 0, slots := 0, locals := 116 }) s m ([.ref (q 0), .int x1] : List Value).toArray below meth c H locs 0 0 (MQ below (QE (some (.int (fX6_printLine v x1).2)) (fun H => PW G (mdW G q (fX6_printLine v x1).1 hs) H) (mdA q)) ([.ref (q 0), .int x1] : List Value).toArray s 0 0 (mdA q)) (F0 m 97 ls []) := by
    intro y2_32 y3_32 v_32 hg hI H locs hP hS ls hl
    refine lv_aload_n hC.1 hC.2.1 dX6_printLine_97 rfl (lv_at hl 0 rfl) ?_
    refine lv_aload_n hC.1 hC.2.1 dX6_printLine_98 rfl (lv_at hl 0 rfl) ?_
    refine gf (v := .ref (q 1)) hC fwX6 (hKN.go hAL hS) hP 0 rfl rfl 0 (by decide) rfl wd_887 rfl dX6_printLine_99 ?_
    refine lv_bipush (v := 80) hC.1 hC.2.1 dX6_printLine_102 (by decide +kernel) ?_
    refine iald_k hC (hKN.go hAL hS) hP 1 rfl (n := 124) (f := (v_32 0)) 80 (rfl) (by omega) (by decide) dX6_printLine_104 ?_
    refine runE (rV (B := fun U H => PW G (mdW G q v_32 hs) H) (As := [.int ((v_32 0) 80)]) (rest := []) hC mwX6_pass (c_X6_pass l G q v_32 hs ((v_32 0) 80) hq hI.1) iwX6_pass wd_1011 ⟨rfl, rfl⟩ ⟨Nat.le_of_ble_eq_true rfl, Nat.le_of_ble_eq_true rfl⟩ (stb_h (fun H => PW G (mdW G q v_32 hs) H)) (hKN.go hAL hS) hP (va_recv (hKN.go hAL hS).k hP (ci := 6) (q0 := 0) rfl rfl) rfl hl.1 rfl (Nat.le_of_ble_eq_true rfl) dX6_printLine_105 ⟨Nat.zero_le _, Nat.zero_le _⟩) hS (fun _ h => h) (fun _ h => h) (fun H locs hq_4 _ _ hS => ?_)
    have hP : PW G (mdW G q (fX6_pass v_32 ((v_32 0) 80)) hs) H := hq_4
    obtain ⟨r_5, er_5⟩ : ∃ z, z = fX6_pass v_32 ((v_32 0) 80) := ⟨_, rfl⟩
    rw [← er_5] at hP
    have hI : SI (r_5 0) ∧ fX6_partsOf r_5 x1 = y3_32 := by rw [er_5]; exact (KK (S_pass _ _) hI)
    refine lv_aload_n hC.1 hC.2.1 dX6_printLine_108 rfl (lv_at hl 0 rfl) ?_
    refine lv_iload_n hC.1 hC.2.1 dX6_printLine_109 rfl (lv_at hl 1 rfl) ?_
    refine lv_iload_n hC.1 hC.2.1 dX6_printLine_110 rfl (lv_at hl 3 rfl) ?_
    refine runE (rV (B := fun U H => PW G (mdW G q r_5 hs) H) (As := [.int x1, .int y3_32]) (rest := []) hC mwX6_keepLine (c_X6_keepLine l G q r_5 hs x1 y3_32 hq hI.1) iwX6_keepLine wd_1027 ⟨rfl, rfl⟩ ⟨Nat.le_of_ble_eq_true rfl, Nat.le_of_ble_eq_true rfl⟩ (stb_h (fun H => PW G (mdW G q r_5 hs) H)) (hKN.go hAL hS) hP (va_recv (hKN.go hAL hS).k hP (ci := 6) (q0 := 0) rfl rfl) rfl hl.1 rfl (Nat.le_of_ble_eq_true rfl) dX6_printLine_111 ⟨Nat.zero_le _, Nat.zero_le _⟩) hS (fun _ h => h) (fun _ h => h) (fun H locs hq_6 _ _ hS => ?_)
    have hP : PW G (mdW G q (fX6_keepLine r_5 x1 y3_32) hs) H := hq_6
    obtain ⟨r_7, er_7⟩ : ∃ z, z = fX6_keepLine r_5 x1 y3_32 := ⟨_, rfl⟩
    rw [← er_7] at hP
    have hI : SI (r_7 0) ∧ fX6_partsOf r_7 x1 = y3_32 := by rw [er_7]; exact (KK (S_keepLine _ _ _) hI)
    refine lv_aload_n hC.1 hC.2.1 dX6_printLine_114 rfl (lv_at hl 0 rfl) ?_
    refine gf (v := .ref (q 1)) hC fwX6 (hKN.go hAL hS) hP 0 rfl rfl 0 (by decide) rfl wd_887 rfl dX6_printLine_115 ?_
    refine lv_bipush (v := 25) hC.1 hC.2.1 dX6_printLine_118 (by decide +kernel) ?_
    refine lv_aload_n hC.1 hC.2.1 dX6_printLine_120 rfl (lv_at hl 0 rfl) ?_
    refine gf (v := .ref (q 1)) hC fwX6 (hKN.go hAL hS) hP 0 rfl rfl 0 (by decide) rfl wd_887 rfl dX6_printLine_121 ?_
    refine lv_bipush (v := 24) hC.1 hC.2.1 dX6_printLine_124 (by decide +kernel) ?_
    refine iald_k hC (hKN.go hAL hS) hP 1 rfl (n := 124) (f := (r_7 0)) 24 (rfl) (by omega) (by decide) dX6_printLine_126 ?_
    refine lv_topi (fun w_8 ew_8 => ?_)
    refine iast_k hC (hKN.go hAL hS) hP (mdD_D hq r_7 hs) hS 1 rfl (n := 124) (f := (r_7 0)) 25 (rfl) (by omega) (by decide) dX6_printLine_127 (fun H locs hq_9 hS => ?_)
    have hP : PW G (mdW G q (mkM (upd (r_7 0) 25 w_8) (r_7 1) (r_7 2) (r_7 3) (r_7 4) (r_7 5) (r_7 6) (r_7 7) (r_7 8 0) (r_7 8 1) (r_7 8 2) (r_7 8 3) (r_7 8 4) (r_7 8 5) (r_7 8 6) (r_7 8 7) (r_7 8 8)) hs) H := hq_9
    have hI : SI ((mkM (upd (r_7 0) 25 w_8) (r_7 1) (r_7 2) (r_7 3) (r_7 4) (r_7 5) (r_7 6) (r_7 7) (r_7 8 0) (r_7 8 1) (r_7 8 2) (r_7 8 3) (r_7 8 4) (r_7 8 5) (r_7 8 6) (r_7 8 7) (r_7 8 8)) 0) ∧ fX6_partsOf (mkM (upd (r_7 0) 25 w_8) (r_7 1) (r_7 2) (r_7 3) (r_7 4) (r_7 5) (r_7 6) (r_7 7) (r_7 8 0) (r_7 8 1) (r_7 8 2) (r_7 8 3) (r_7 8 4) (r_7 8 5) (r_7 8 6) (r_7 8 7) (r_7 8 8)) x1 = y3_32 := (KKr hI ((EqS.rf _).u (Or.inl (by omega))))
    refine lv_aload_n hC.1 hC.2.1 dX6_printLine_128 rfl (lv_at hl 0 rfl) ?_
    refine gf (v := .ref (q 1)) hC fwX6 (hKN.go hAL hS) hP 0 rfl rfl 0 (by decide) rfl wd_887 rfl dX6_printLine_129 ?_
    refine lv_bipush (v := 24) hC.1 hC.2.1 dX6_printLine_132 (by decide +kernel) ?_
    refine lv_iload_n hC.1 hC.2.1 dX6_printLine_134 rfl (lv_at hl 1 rfl) ?_
    refine iast_k hC (hKN.go hAL hS) hP (mdD_D hq (mkM (upd (r_7 0) 25 w_8) (r_7 1) (r_7 2) (r_7 3) (r_7 4) (r_7 5) (r_7 6) (r_7 7) (r_7 8 0) (r_7 8 1) (r_7 8 2) (r_7 8 3) (r_7 8 4) (r_7 8 5) (r_7 8 6) (r_7 8 7) (r_7 8 8)) hs) hS 1 rfl (n := 124) (f := (upd (r_7 0) 25 w_8)) 24 (rfl) (by omega) (by decide) dX6_printLine_135 (fun H locs hq_10 hS => ?_)
    have hP : PW G (mdW G q (mkM (upd (upd (r_7 0) 25 w_8) 24 x1) (r_7 1) (r_7 2) (r_7 3) (r_7 4) (r_7 5) (r_7 6) (r_7 7) (r_7 8 0) (r_7 8 1) (r_7 8 2) (r_7 8 3) (r_7 8 4) (r_7 8 5) (r_7 8 6) (r_7 8 7) (r_7 8 8)) hs) H := hq_10
    have hI : SI ((mkM (upd (upd (r_7 0) 25 w_8) 24 x1) (r_7 1) (r_7 2) (r_7 3) (r_7 4) (r_7 5) (r_7 6) (r_7 7) (r_7 8 0) (r_7 8 1) (r_7 8 2) (r_7 8 3) (r_7 8 4) (r_7 8 5) (r_7 8 6) (r_7 8 7) (r_7 8 8)) 0) ∧ fX6_partsOf (mkM (upd (upd (r_7 0) 25 w_8) 24 x1) (r_7 1) (r_7 2) (r_7 3) (r_7 4) (r_7 5) (r_7 6) (r_7 7) (r_7 8 0) (r_7 8 1) (r_7 8 2) (r_7 8 3) (r_7 8 4) (r_7 8 5) (r_7 8 6) (r_7 8 7) (r_7 8 8)) x1 = y3_32 := (KKr hI ((EqS.rf _).u (Or.inl (by omega))))
    refine lv_aload_n hC.1 hC.2.1 dX6_printLine_136 rfl (lv_at hl 0 rfl) ?_
    refine gf (v := .ref (q 1)) hC fwX6 (hKN.go hAL hS) hP 0 rfl rfl 0 (by decide) rfl wd_887 rfl dX6_printLine_137 ?_
    refine lv_bipush (v := 83) hC.1 hC.2.1 dX6_printLine_140 (by decide +kernel) ?_
    refine lv_dup2_11 hC.1 hC.2.1 dX6_printLine_142 rfl rfl ?_
    refine iald_k hC (hKN.go hAL hS) hP 1 rfl (n := 124) (f := (upd (upd (r_7 0) 25 w_8) 24 x1)) 83 (rfl) (by omega) (by decide) dX6_printLine_143 ?_
    refine lv_iconst (v := 1) hC.1 hC.2.1 dX6_printLine_144 (by decide) ?_
    refine lv_iadd hC.1 hC.2.1 dX6_printLine_145 ?_
    refine lv_topi (fun w_11 ew_11 => ?_)
    refine iast_k hC (hKN.go hAL hS) hP (mdD_D hq (mkM (upd (upd (r_7 0) 25 w_8) 24 x1) (r_7 1) (r_7 2) (r_7 3) (r_7 4) (r_7 5) (r_7 6) (r_7 7) (r_7 8 0) (r_7 8 1) (r_7 8 2) (r_7 8 3) (r_7 8 4) (r_7 8 5) (r_7 8 6) (r_7 8 7) (r_7 8 8)) hs) hS 1 rfl (n := 124) (f := (upd (upd (r_7 0) 25 w_8) 24 x1)) 83 (rfl) (by omega) (by decide) dX6_printLine_146 (fun H locs hq_12 hS => ?_)
    have hP : PW G (mdW G q (mkM (upd (upd (upd (r_7 0) 25 w_8) 24 x1) 83 w_11) (r_7 1) (r_7 2) (r_7 3) (r_7 4) (r_7 5) (r_7 6) (r_7 7) (r_7 8 0) (r_7 8 1) (r_7 8 2) (r_7 8 3) (r_7 8 4) (r_7 8 5) (r_7 8 6) (r_7 8 7) (r_7 8 8)) hs) H := hq_12
    have hI : SI ((mkM (upd (upd (upd (r_7 0) 25 w_8) 24 x1) 83 w_11) (r_7 1) (r_7 2) (r_7 3) (r_7 4) (r_7 5) (r_7 6) (r_7 7) (r_7 8 0) (r_7 8 1) (r_7 8 2) (r_7 8 3) (r_7 8 4) (r_7 8 5) (r_7 8 6) (r_7 8 7) (r_7 8 8)) 0) ∧ fX6_partsOf (mkM (upd (upd (upd (r_7 0) 25 w_8) 24 x1) 83 w_11) (r_7 1) (r_7 2) (r_7 3) (r_7 4) (r_7 5) (r_7 6) (r_7 7) (r_7 8 0) (r_7 8 1) (r_7 8 2) (r_7 8 3) (r_7 8 4) (r_7 8 5) (r_7 8 6) (r_7 8 7) (r_7 8 8)) x1 = y3_32 := (KKr hI ((EqS.rf _).u (Or.inr (by omega))))
    refine lv_aload_n hC.1 hC.2.1 dX6_printLine_147 rfl (lv_at hl 0 rfl) ?_
    refine gf (v := .ref (q 1)) hC fwX6 (hKN.go hAL hS) hP 0 rfl rfl 0 (by decide) rfl wd_887 rfl dX6_printLine_148 ?_
    refine lv_bipush (v := 84) hC.1 hC.2.1 dX6_printLine_151 (by decide +kernel) ?_
    refine lv_dup2_11 hC.1 hC.2.1 dX6_printLine_153 rfl rfl ?_
    refine iald_k hC (hKN.go hAL hS) hP 1 rfl (n := 124) (f := (upd (upd (upd (r_7 0) 25 w_8) 24 x1) 83 w_11)) 84 (rfl) (by omega) (by decide) dX6_printLine_154 ?_
    refine lv_iload_n hC.1 hC.2.1 dX6_printLine_155 rfl (lv_at hl 3 rfl) ?_
    refine lv_iadd hC.1 hC.2.1 dX6_printLine_156 ?_
    refine lv_topi (fun w_13 ew_13 => ?_)
    refine iast_k hC (hKN.go hAL hS) hP (mdD_D hq (mkM (upd (upd (upd (r_7 0) 25 w_8) 24 x1) 83 w_11) (r_7 1) (r_7 2) (r_7 3) (r_7 4) (r_7 5) (r_7 6) (r_7 7) (r_7 8 0) (r_7 8 1) (r_7 8 2) (r_7 8 3) (r_7 8 4) (r_7 8 5) (r_7 8 6) (r_7 8 7) (r_7 8 8)) hs) hS 1 rfl (n := 124) (f := (upd (upd (upd (r_7 0) 25 w_8) 24 x1) 83 w_11)) 84 (rfl) (by omega) (by decide) dX6_printLine_157 (fun H locs hq_14 hS => ?_)
    have hP : PW G (mdW G q (mkM (upd (upd (upd (upd (r_7 0) 25 w_8) 24 x1) 83 w_11) 84 w_13) (r_7 1) (r_7 2) (r_7 3) (r_7 4) (r_7 5) (r_7 6) (r_7 7) (r_7 8 0) (r_7 8 1) (r_7 8 2) (r_7 8 3) (r_7 8 4) (r_7 8 5) (r_7 8 6) (r_7 8 7) (r_7 8 8)) hs) H := hq_14
    have hI : SI ((mkM (upd (upd (upd (upd (r_7 0) 25 w_8) 24 x1) 83 w_11) 84 w_13) (r_7 1) (r_7 2) (r_7 3) (r_7 4) (r_7 5) (r_7 6) (r_7 7) (r_7 8 0) (r_7 8 1) (r_7 8 2) (r_7 8 3) (r_7 8 4) (r_7 8 5) (r_7 8 6) (r_7 8 7) (r_7 8 8)) 0) ∧ fX6_partsOf (mkM (upd (upd (upd (upd (r_7 0) 25 w_8) 24 x1) 83 w_11) 84 w_13) (r_7 1) (r_7 2) (r_7 3) (r_7 4) (r_7 5) (r_7 6) (r_7 7) (r_7 8 0) (r_7 8 1) (r_7 8 2) (r_7 8 3) (r_7 8 4) (r_7 8 5) (r_7 8 6) (r_7 8 7) (r_7 8 8)) x1 = y3_32 := (KKr hI ((EqS.rf _).u (Or.inr (by omega))))
    refine lv_aload_n hC.1 hC.2.1 dX6_printLine_158 rfl (lv_at hl 0 rfl) ?_
    refine gf (v := .ref (q 1)) hC fwX6 (hKN.go hAL hS) hP 0 rfl rfl 0 (by decide) rfl wd_887 rfl dX6_printLine_159 ?_
    refine lv_bipush (v := 85) hC.1 hC.2.1 dX6_printLine_162 (by decide +kernel) ?_
    refine lv_dup2_11 hC.1 hC.2.1 dX6_printLine_164 rfl rfl ?_
    refine iald_k hC (hKN.go hAL hS) hP 1 rfl (n := 124) (f := (upd (upd (upd (upd (r_7 0) 25 w_8) 24 x1) 83 w_11) 84 w_13)) 85 (rfl) (by omega) (by decide) dX6_printLine_165 ?_
    refine lv_aload_n hC.1 hC.2.1 dX6_printLine_166 rfl (lv_at hl 0 rfl) ?_
    refine gf (v := .int (r_7 8 3)) hC fwX6 (hKN.go hAL hS) hP 0 rfl rfl 7 (by decide) rfl wd_894 rfl dX6_printLine_167 ?_
    refine lv_iadd hC.1 hC.2.1 dX6_printLine_170 ?_
    refine lv_topi (fun w_15 ew_15 => ?_)
    refine iast_k hC (hKN.go hAL hS) hP (mdD_D hq (mkM (upd (upd (upd (upd (r_7 0) 25 w_8) 24 x1) 83 w_11) 84 w_13) (r_7 1) (r_7 2) (r_7 3) (r_7 4) (r_7 5) (r_7 6) (r_7 7) (r_7 8 0) (r_7 8 1) (r_7 8 2) (r_7 8 3) (r_7 8 4) (r_7 8 5) (r_7 8 6) (r_7 8 7) (r_7 8 8)) hs) hS 1 rfl (n := 124) (f := (upd (upd (upd (upd (r_7 0) 25 w_8) 24 x1) 83 w_11) 84 w_13)) 85 (rfl) (by omega) (by decide) dX6_printLine_171 (fun H locs hq_16 hS => ?_)
    have hP : PW G (mdW G q (mkM (upd (upd (upd (upd (upd (r_7 0) 25 w_8) 24 x1) 83 w_11) 84 w_13) 85 w_15) (r_7 1) (r_7 2) (r_7 3) (r_7 4) (r_7 5) (r_7 6) (r_7 7) (r_7 8 0) (r_7 8 1) (r_7 8 2) (r_7 8 3) (r_7 8 4) (r_7 8 5) (r_7 8 6) (r_7 8 7) (r_7 8 8)) hs) H := hq_16
    have hI : SI ((mkM (upd (upd (upd (upd (upd (r_7 0) 25 w_8) 24 x1) 83 w_11) 84 w_13) 85 w_15) (r_7 1) (r_7 2) (r_7 3) (r_7 4) (r_7 5) (r_7 6) (r_7 7) (r_7 8 0) (r_7 8 1) (r_7 8 2) (r_7 8 3) (r_7 8 4) (r_7 8 5) (r_7 8 6) (r_7 8 7) (r_7 8 8)) 0) ∧ fX6_partsOf (mkM (upd (upd (upd (upd (upd (r_7 0) 25 w_8) 24 x1) 83 w_11) 84 w_13) 85 w_15) (r_7 1) (r_7 2) (r_7 3) (r_7 4) (r_7 5) (r_7 6) (r_7 7) (r_7 8 0) (r_7 8 1) (r_7 8 2) (r_7 8 3) (r_7 8 4) (r_7 8 5) (r_7 8 6) (r_7 8 7) (r_7 8 8)) x1 = y3_32 := (KKr hI ((EqS.rf _).u (Or.inr (by omega))))
    refine lv_aload_n hC.1 hC.2.1 dX6_printLine_172 rfl (lv_at hl 0 rfl) ?_
    refine gf (v := .ref (q 1)) hC fwX6 (hKN.go hAL hS) hP 0 rfl rfl 0 (by decide) rfl wd_887 rfl dX6_printLine_173 ?_
    refine lv_bipush (v := 86) hC.1 hC.2.1 dX6_printLine_176 (by decide +kernel) ?_
    refine lv_aload_n hC.1 hC.2.1 dX6_printLine_178 rfl (lv_at hl 0 rfl) ?_
    refine gf (v := .int (r_7 8 5)) hC fwX6 (hKN.go hAL hS) hP 0 rfl rfl 9 (by decide) rfl wd_896 rfl dX6_printLine_179 ?_
    refine lv_aload_n hC.1 hC.2.1 dX6_printLine_182 rfl (lv_at hl 0 rfl) ?_
    refine gf (v := .ref (q 1)) hC fwX6 (hKN.go hAL hS) hP 0 rfl rfl 0 (by decide) rfl wd_887 rfl dX6_printLine_183 ?_
    refine lv_bipush (v := 86) hC.1 hC.2.1 dX6_printLine_186 (by decide +kernel) ?_
    refine iald_k hC (hKN.go hAL hS) hP 1 rfl (n := 124) (f := (upd (upd (upd (upd (upd (r_7 0) 25 w_8) 24 x1) 83 w_11) 84 w_13) 85 w_15)) 86 (rfl) (by omega) (by decide) dX6_printLine_188 ?_
    refine lv_icmp_le (tgt := 199) hC.1 hC.2.1 dX6_printLine_189 (by decide) (fun k189 => ?_) (fun k189 => ?_)
    · refine lv_aload_n hC.1 hC.2.1 dX6_printLine_199 rfl (lv_at hl 0 rfl) ?_
      refine gf (v := .ref (q 1)) hC fwX6 (hKN.go hAL hS) hP 0 rfl rfl 0 (by decide) rfl wd_887 rfl dX6_printLine_200 ?_
      refine lv_bipush (v := 86) hC.1 hC.2.1 dX6_printLine_203 (by decide +kernel) ?_
      refine iald_k hC (hKN.go hAL hS) hP 1 rfl (n := 124) (f := (upd (upd (upd (upd (upd (r_7 0) 25 w_8) 24 x1) 83 w_11) 84 w_13) 85 w_15)) 86 (rfl) (by omega) (by decide) dX6_printLine_205 ?_
      refine lv_topi (fun w_17 ew_17 => ?_)
      refine iast_k hC (hKN.go hAL hS) hP (mdD_D hq (mkM (upd (upd (upd (upd (upd (r_7 0) 25 w_8) 24 x1) 83 w_11) 84 w_13) 85 w_15) (r_7 1) (r_7 2) (r_7 3) (r_7 4) (r_7 5) (r_7 6) (r_7 7) (r_7 8 0) (r_7 8 1) (r_7 8 2) (r_7 8 3) (r_7 8 4) (r_7 8 5) (r_7 8 6) (r_7 8 7) (r_7 8 8)) hs) hS 1 rfl (n := 124) (f := (upd (upd (upd (upd (upd (r_7 0) 25 w_8) 24 x1) 83 w_11) 84 w_13) 85 w_15)) 86 (rfl) (by omega) (by decide) dX6_printLine_206 (fun H locs hq_18 hS => ?_)
      have hP : PW G (mdW G q (mkM (upd (upd (upd (upd (upd (upd (r_7 0) 25 w_8) 24 x1) 83 w_11) 84 w_13) 85 w_15) 86 w_17) (r_7 1) (r_7 2) (r_7 3) (r_7 4) (r_7 5) (r_7 6) (r_7 7) (r_7 8 0) (r_7 8 1) (r_7 8 2) (r_7 8 3) (r_7 8 4) (r_7 8 5) (r_7 8 6) (r_7 8 7) (r_7 8 8)) hs) H := hq_18
      have hI : SI ((mkM (upd (upd (upd (upd (upd (upd (r_7 0) 25 w_8) 24 x1) 83 w_11) 84 w_13) 85 w_15) 86 w_17) (r_7 1) (r_7 2) (r_7 3) (r_7 4) (r_7 5) (r_7 6) (r_7 7) (r_7 8 0) (r_7 8 1) (r_7 8 2) (r_7 8 3) (r_7 8 4) (r_7 8 5) (r_7 8 6) (r_7 8 7) (r_7 8 8)) 0) ∧ fX6_partsOf (mkM (upd (upd (upd (upd (upd (upd (r_7 0) 25 w_8) 24 x1) 83 w_11) 84 w_13) 85 w_15) 86 w_17) (r_7 1) (r_7 2) (r_7 3) (r_7 4) (r_7 5) (r_7 6) (r_7 7) (r_7 8 0) (r_7 8 1) (r_7 8 2) (r_7 8 3) (r_7 8 4) (r_7 8 5) (r_7 8 6) (r_7 8 7) (r_7 8 8)) x1 = y3_32 := (KKr hI ((EqS.rf _).u (Or.inr (by omega))))
      refine lv_aload_n hC.1 hC.2.1 dX6_printLine_207 rfl (lv_at hl 0 rfl) ?_
      refine gf (v := .ref (q 1)) hC fwX6 (hKN.go hAL hS) hP 0 rfl rfl 0 (by decide) rfl wd_887 rfl dX6_printLine_208 ?_
      refine lv_bipush (v := 82) hC.1 hC.2.1 dX6_printLine_211 (by decide +kernel) ?_
      refine iald_k hC (hKN.go hAL hS) hP 1 rfl (n := 124) (f := (upd (upd (upd (upd (upd (upd (r_7 0) 25 w_8) 24 x1) 83 w_11) 84 w_13) 85 w_15) 86 w_17)) 82 (rfl) (by omega) (by decide) dX6_printLine_213 ?_
      refine lv_iload_n hC.1 hC.2.1 dX6_printLine_214 rfl (lv_at hl 2 rfl) ?_
      refine lv_isub hC.1 hC.2.1 dX6_printLine_215 ?_
      have e_19 : tX6_printLine_32 v x1 y2_32 y3_32 v_32 = (mkM (upd (upd (upd (upd (upd (upd (r_7 0) 25 w_8) 24 x1) 83 w_11) 84 w_13) 85 w_15) 86 w_17) (r_7 1) (r_7 2) (r_7 3) (r_7 4) (r_7 5) (r_7 6) (r_7 7) (r_7 8 0) (r_7 8 1) (r_7 8 2) (r_7 8 3) (r_7 8 4) (r_7 8 5) (r_7 8 6) (r_7 8 7) (r_7 8 8), ((upd (upd (upd (upd (upd (upd (r_7 0) 25 w_8) 24 x1) 83 w_11) 84 w_13) 85 w_15) 86 w_17) 82) - y2_32) := by subst ew_17; subst ew_15; subst ew_13; subst ew_11; subst ew_8; subst er_7; subst er_5; exact Eq.trans (if_pos k189) rfl
      have hg : fX6_printLine v x1 = (mkM (upd (upd (upd (upd (upd (upd (r_7 0) 25 w_8) 24 x1) 83 w_11) 84 w_13) 85 w_15) 86 w_17) (r_7 1) (r_7 2) (r_7 3) (r_7 4) (r_7 5) (r_7 6) (r_7 7) (r_7 8 0) (r_7 8 1) (r_7 8 2) (r_7 8 3) (r_7 8 4) (r_7 8 5) (r_7 8 6) (r_7 8 7) (r_7 8 8), ((upd (upd (upd (upd (upd (upd (r_7 0) 25 w_8) 24 x1) 83 w_11) 84 w_13) 85 w_15) 86 w_17) 82) - y2_32) := by have e2 := congrArg (fun z => z) e_19; exact hg.trans e2
      exact eE_i hC (by rw [hg]) (by show PW G (mdW G q (fX6_printLine v x1).1 hs) H; rw [hg]; exact hP) hS dX6_printLine_216
    · refine lv_aload_n hC.1 hC.2.1 dX6_printLine_192 rfl (lv_at hl 0 rfl) ?_
      refine gf (v := .int (r_7 8 5)) hC fwX6 (hKN.go hAL hS) hP 0 rfl rfl 9 (by decide) rfl wd_896 rfl dX6_printLine_193 ?_
      refine lv_goto (tgt := 206) hC.1 hC.2.1 dX6_printLine_196 (by decide) ?_
      refine lv_topi (fun w_20 ew_20 => ?_)
      refine iast_k hC (hKN.go hAL hS) hP (mdD_D hq (mkM (upd (upd (upd (upd (upd (r_7 0) 25 w_8) 24 x1) 83 w_11) 84 w_13) 85 w_15) (r_7 1) (r_7 2) (r_7 3) (r_7 4) (r_7 5) (r_7 6) (r_7 7) (r_7 8 0) (r_7 8 1) (r_7 8 2) (r_7 8 3) (r_7 8 4) (r_7 8 5) (r_7 8 6) (r_7 8 7) (r_7 8 8)) hs) hS 1 rfl (n := 124) (f := (upd (upd (upd (upd (upd (r_7 0) 25 w_8) 24 x1) 83 w_11) 84 w_13) 85 w_15)) 86 (rfl) (by omega) (by decide) dX6_printLine_206 (fun H locs hq_21 hS => ?_)
      have hP : PW G (mdW G q (mkM (upd (upd (upd (upd (upd (upd (r_7 0) 25 w_8) 24 x1) 83 w_11) 84 w_13) 85 w_15) 86 w_20) (r_7 1) (r_7 2) (r_7 3) (r_7 4) (r_7 5) (r_7 6) (r_7 7) (r_7 8 0) (r_7 8 1) (r_7 8 2) (r_7 8 3) (r_7 8 4) (r_7 8 5) (r_7 8 6) (r_7 8 7) (r_7 8 8)) hs) H := hq_21
      have hI : SI ((mkM (upd (upd (upd (upd (upd (upd (r_7 0) 25 w_8) 24 x1) 83 w_11) 84 w_13) 85 w_15) 86 w_20) (r_7 1) (r_7 2) (r_7 3) (r_7 4) (r_7 5) (r_7 6) (r_7 7) (r_7 8 0) (r_7 8 1) (r_7 8 2) (r_7 8 3) (r_7 8 4) (r_7 8 5) (r_7 8 6) (r_7 8 7) (r_7 8 8)) 0) ∧ fX6_partsOf (mkM (upd (upd (upd (upd (upd (upd (r_7 0) 25 w_8) 24 x1) 83 w_11) 84 w_13) 85 w_15) 86 w_20) (r_7 1) (r_7 2) (r_7 3) (r_7 4) (r_7 5) (r_7 6) (r_7 7) (r_7 8 0) (r_7 8 1) (r_7 8 2) (r_7 8 3) (r_7 8 4) (r_7 8 5) (r_7 8 6) (r_7 8 7) (r_7 8 8)) x1 = y3_32 := (KKr hI ((EqS.rf _).u (Or.inr (by omega))))
      refine lv_aload_n hC.1 hC.2.1 dX6_printLine_207 rfl (lv_at hl 0 rfl) ?_
      refine gf (v := .ref (q 1)) hC fwX6 (hKN.go hAL hS) hP 0 rfl rfl 0 (by decide) rfl wd_887 rfl dX6_printLine_208 ?_
      refine lv_bipush (v := 82) hC.1 hC.2.1 dX6_printLine_211 (by decide +kernel) ?_
      refine iald_k hC (hKN.go hAL hS) hP 1 rfl (n := 124) (f := (upd (upd (upd (upd (upd (upd (r_7 0) 25 w_8) 24 x1) 83 w_11) 84 w_13) 85 w_15) 86 w_20)) 82 (rfl) (by omega) (by decide) dX6_printLine_213 ?_
      refine lv_iload_n hC.1 hC.2.1 dX6_printLine_214 rfl (lv_at hl 2 rfl) ?_
      refine lv_isub hC.1 hC.2.1 dX6_printLine_215 ?_
      have e_22 : tX6_printLine_32 v x1 y2_32 y3_32 v_32 = (mkM (upd (upd (upd (upd (upd (upd (r_7 0) 25 w_8) 24 x1) 83 w_11) 84 w_13) 85 w_15) 86 w_20) (r_7 1) (r_7 2) (r_7 3) (r_7 4) (r_7 5) (r_7 6) (r_7 7) (r_7 8 0) (r_7 8 1) (r_7 8 2) (r_7 8 3) (r_7 8 4) (r_7 8 5) (r_7 8 6) (r_7 8 7) (r_7 8 8), ((upd (upd (upd (upd (upd (upd (r_7 0) 25 w_8) 24 x1) 83 w_11) 84 w_13) 85 w_15) 86 w_20) 82) - y2_32) := by subst ew_20; subst ew_15; subst ew_13; subst ew_11; subst ew_8; subst er_7; subst er_5; exact Eq.trans (if_neg k189) rfl
      have hg : fX6_printLine v x1 = (mkM (upd (upd (upd (upd (upd (upd (r_7 0) 25 w_8) 24 x1) 83 w_11) 84 w_13) 85 w_15) 86 w_20) (r_7 1) (r_7 2) (r_7 3) (r_7 4) (r_7 5) (r_7 6) (r_7 7) (r_7 8 0) (r_7 8 1) (r_7 8 2) (r_7 8 3) (r_7 8 4) (r_7 8 5) (r_7 8 6) (r_7 8 7) (r_7 8 8), ((upd (upd (upd (upd (upd (upd (r_7 0) 25 w_8) 24 x1) 83 w_11) 84 w_13) 85 w_15) 86 w_20) 82) - y2_32) := by have e2 := congrArg (fun z => z) e_22; exact hg.trans e2
      exact eE_i hC (by rw [hg]) (by show PW G (mdW G q (fX6_printLine v x1).1 hs) H; rw [hg]; exact hP) hS dX6_printLine_216
  have L32 : ∀ (y2_32 : Int32) (y3_32 : Int32), ∀ (n32 d32 : Nat), ∀ (v_32 : SV), d32 + n32 = y3_32.toNatClampNeg → fX6_printLine v x1 = (tX6_printLine_32 v x1 y2_32 y3_32 (lpF n32 d32 (bX6_printLine_32 v x1 y2_32 y3_32) v_32)) → SI (v_32 0) ∧ fX6_partsOf v_32 x1 = y3_32 → ∀ (H : Heap) (locs : List Loc), PW G (mdW G q v_32 hs) H → va_S (mdA q) s.heap H locs → ∀ (ls : Array Slot), lv_has ls 6 [(0, .ref (q 0)), (1, .int x1), (2, .int y2_32), (3, .int y3_32), (4, .int (nI d32))] → W p l e ({ frames := 5, cells := 0, slots := 0, locals := 116 }) s m ([.ref (q 0), .int x1] : List Value).toArray below meth c H locs 0 0 (MQ below (QE (some (.int (fX6_printLine v x1).2)) (fun H => PW G (mdW G q (fX6_printLine v x1).1 hs) H) (mdA q)) ([.ref (q 0), .int x1] : List Value).toArray s 0 0 (mdA q)) (F0 m 32 ls []) := by
    intro y2_32 y3_32
    intro n32
    induction n32 with
    | zero =>
      intro d32 v_32 hd hg hI H locs hP hS ls hl
      refine lv_iload hC.1 hC.2.1 dX6_printLine_32 (lv_at hl 4 rfl) ?_
      refine lv_iload_n hC.1 hC.2.1 dX6_printLine_34 rfl (lv_at hl 3 rfl) ?_
      refine lv_icmp_ge (tgt := 97) hC.1 hC.2.1 dX6_printLine_35 (by decide) (fun k35 => ?_) (fun k35 => ?_)
      · exact A32 y2_32 y3_32 v_32 hg hI _ _ hP hS _ (lv_sub hl [0, 1, 2, 3] rfl)
      · exact absurd (cl_le (by omega) (by have := cl_lt y3_32; omega)) k35
    | succ n32 ih =>
      intro d32 v_32 hd hg hI H locs hP hS ls hl
      have hg : fX6_printLine v x1 = (tX6_printLine_32 v x1 y2_32 y3_32 (lpF n32 (d32 + 1) (bX6_printLine_32 v x1 y2_32 y3_32) (bX6_printLine_32 v x1 y2_32 y3_32 d32 v_32))) := hg
      refine lv_iload hC.1 hC.2.1 dX6_printLine_32 (lv_at hl 4 rfl) ?_
      refine lv_iload_n hC.1 hC.2.1 dX6_printLine_34 rfl (lv_at hl 3 rfl) ?_
      refine lv_icmp_ge (tgt := 97) hC.1 hC.2.1 dX6_printLine_35 (by decide) (fun k35 => ?_) (fun k35 => ?_)
      · exact absurd k35 (cl_nle (by omega))
      · refine lv_aload_n hC.1 hC.2.1 dX6_printLine_38 rfl (lv_at hl 0 rfl) ?_
        refine lv_iload_n hC.1 hC.2.1 dX6_printLine_39 rfl (lv_at hl 1 rfl) ?_
        refine lv_iload hC.1 hC.2.1 dX6_printLine_40 (lv_at hl 4 rfl) ?_
        refine runP (rV (B := fun U H => PW G (mdW G q v_32 hs) H) (As := [.int x1, .int (nI d32)]) (rest := []) hC mwX6_dotsOfPart (c_X6_dotsOfPart l G q v_32 hs x1 (nI d32) hI.1 (by rw [hI.2]; exact cl_ne0 (d := d32) (by omega))) iwX6_dotsOfPart wd_992 ⟨rfl, rfl⟩ ⟨Nat.le_of_ble_eq_true rfl, Nat.le_of_ble_eq_true rfl⟩ (stb_h (fun H => PW G (mdW G q v_32 hs) H)) (hKN.go hAL hS) hP (va_recv (hKN.go hAL hS).k hP (ci := 6) (q0 := 0) rfl rfl) rfl hl.1 rfl (Nat.le_of_ble_eq_true rfl) dX6_printLine_42 ⟨Nat.zero_le _, Nat.zero_le _⟩) ?_
        refine lv_istore (lv' := [(5, .int (fX6_dotsOfPart v_32 x1 (nI d32))), (0, .ref (q 0)), (1, .int x1), (2, .int y2_32), (3, .int y3_32), (4, .int (nI d32))]) hC.1 hC.2.1 dX6_printLine_45 hl (by decide) rfl (fun ls hl => ?_)
        have A47 : ∀ (y5_47 : Int32), ∀ (v_47 : SV), fX6_printLine v x1 = (tX6_printLine_32 v x1 y2_32 y3_32 (lpF n32 (d32 + 1) (bX6_printLine_32 v x1 y2_32 y3_32) (tX6_printLine_47 v x1 y2_32 y3_32 d32 y5_47 v_47))) → SI (v_47 0) ∧ fX6_partsOf v_47 x1 = y3_32 → ∀ (H : Heap) (locs : List Loc), PW G (mdW G q v_47 hs) H → va_S (mdA q) s.heap H locs → ∀ (ls : Array Slot), lv_has ls 6 [(0, .ref (q 0)), (1, .int x1), (2, .int y2_32), (3, .int y3_32), (4, .int (nI d32)), (5, .int y5_47)] → W p l e ({ frames := 5, cells := 0, slots := 0, locals := 116 }) s m ([.ref (q 0), .int x1] : List Value).toArray below meth c H locs 0 0 (MQ below (QE (some (.int (fX6_printLine v x1).2)) (fun H => PW G (mdW G q (fX6_printLine v x1).1 hs) H) (mdA q)) ([.ref (q 0), .int x1] : List Value).toArray s 0 0 (mdA q)) (F0 m 75 ls []) := by
          intro y5_47 v_47 hg hI H locs hP hS ls hl
          refine lv_aload_n hC.1 hC.2.1 dX6_printLine_75 rfl (lv_at hl 0 rfl) ?_
          refine lv_aload_n hC.1 hC.2.1 dX6_printLine_76 rfl (lv_at hl 0 rfl) ?_
          refine lv_iload_n hC.1 hC.2.1 dX6_printLine_77 rfl (lv_at hl 1 rfl) ?_
          refine lv_iload hC.1 hC.2.1 dX6_printLine_78 (lv_at hl 5 rfl) ?_
          refine runE (rV (B := fun U H => PW G (mdW G q v_47 hs) H) (As := [.int x1, .int y5_47]) (rest := [.ref (q 0)]) hC mwX6_printPart (c_X6_printPart l G q v_47 hs x1 y5_47 hq hI.1) iwX6_printPart wd_1019 ⟨rfl, rfl⟩ ⟨Nat.le_of_ble_eq_true rfl, Nat.le_of_ble_eq_true rfl⟩ (stb_h (fun H => PW G (mdW G q v_47 hs) H)) (hKN.go hAL hS) hP (va_recv (hKN.go hAL hS).k hP (ci := 6) (q0 := 0) rfl rfl) rfl hl.1 rfl (Nat.le_of_ble_eq_true rfl) dX6_printLine_80 ⟨Nat.zero_le _, Nat.zero_le _⟩) hS (fun _ h => h) (fun _ h => h) (fun H locs hq_23 _ _ hS => ?_)
          have hP : PW G (mdW G q ((fX6_printPart v_47 x1 y5_47).1) hs) H := hq_23
          obtain ⟨r_24, er_24⟩ : ∃ z, z = fX6_printPart v_47 x1 y5_47 := ⟨_, rfl⟩
          rw [← er_24] at hP
          show W p l e ({ frames := 5, cells := 0, slots := 0, locals := 116 }) s m ([.ref (q 0), .int x1] : List Value).toArray below meth c H locs (0 + 0) (0 + 0) _ (F0 m (80 + 3) ls [.int ((fX6_printPart v_47 x1 y5_47).2), .ref (q 0)])
          rw [← er_24]
          have hI : SI (r_24.1 0) ∧ fX6_partsOf r_24.1 x1 = y3_32 := by rw [er_24]; exact (KK (S_printPart _ _ _) hI)
          refine lv_bipush (v := 10) hC.1 hC.2.1 dX6_printLine_83 (by decide +kernel) ?_
          refine lv_idiv hC.1 hC.2.1 dX6_printLine_85 (by decide) ?_
          refine lv_iconst (v := 1) hC.1 hC.2.1 dX6_printLine_86 (by decide) ?_
          refine lv_iadd hC.1 hC.2.1 dX6_printLine_87 ?_
          refine runE (rV (B := fun U H => PW G (mdW G q r_24.1 hs) H) (As := [.int ((r_24.2 / 10) + 1)]) (rest := []) hC mwX6_pass (c_X6_pass l G q r_24.1 hs ((r_24.2 / 10) + 1) hq hI.1) iwX6_pass wd_1011 ⟨rfl, rfl⟩ ⟨Nat.le_of_ble_eq_true rfl, Nat.le_of_ble_eq_true rfl⟩ (stb_h (fun H => PW G (mdW G q r_24.1 hs) H)) (hKN.go hAL hS) hP (va_recv (hKN.go hAL hS).k hP (ci := 6) (q0 := 0) rfl rfl) rfl hl.1 rfl (Nat.le_of_ble_eq_true rfl) dX6_printLine_88 ⟨Nat.zero_le _, Nat.zero_le _⟩) hS (fun _ h => h) (fun _ h => h) (fun H locs hq_25 _ _ hS => ?_)
          have hP : PW G (mdW G q (fX6_pass r_24.1 ((r_24.2 / 10) + 1)) hs) H := hq_25
          obtain ⟨r_26, er_26⟩ : ∃ z, z = fX6_pass r_24.1 ((r_24.2 / 10) + 1) := ⟨_, rfl⟩
          rw [← er_26] at hP
          have hI : SI (r_26 0) ∧ fX6_partsOf r_26 x1 = y3_32 := by rw [er_26]; exact (KK (S_pass _ _) hI)
          refine lv_iinc (v := nI (d32 + 1)) (lv' := [(4, .int (nI (d32 + 1))), (0, .ref (q 0)), (1, .int x1), (2, .int y2_32), (3, .int y3_32), (5, .int y5_47)]) hC.1 hC.2.1 dX6_printLine_91 hl (k := 4) rfl (nI_1 _) (by decide) rfl (fun ls hl => ?_)
          refine lv_goto (tgt := 32) hC.1 hC.2.1 dX6_printLine_94 (by decide) ?_
          have e_27 : tX6_printLine_47 v x1 y2_32 y3_32 d32 y5_47 v_47 = r_26 := by subst er_26; subst er_24; exact rfl
          have hg : fX6_printLine v x1 = (tX6_printLine_32 v x1 y2_32 y3_32 (lpF n32 (d32 + 1) (bX6_printLine_32 v x1 y2_32 y3_32) r_26)) := by have e2 := congrArg (fun z => (tX6_printLine_32 v x1 y2_32 y3_32 (lpF n32 (d32 + 1) (bX6_printLine_32 v x1 y2_32 y3_32) z))) e_27; exact hg.trans e2
          exact ih (d32 + 1) r_26 (by omega) hg (by first | exact hI | exact ⟨hI, rfl⟩) _ _ hP hS _ (lv_sub hl [1, 2, 3, 4, 0] rfl)
        have L47 : ∀ (y5_47 : Int32), ∀ (n47 : Nat), ∀ (v_47 : SV), lpT n47 (bX6_printLine_47 v x1 y2_32 y3_32 d32 y5_47) v_47 → fX6_printLine v x1 = (tX6_printLine_32 v x1 y2_32 y3_32 (lpF n32 (d32 + 1) (bX6_printLine_32 v x1 y2_32 y3_32) (tX6_printLine_47 v x1 y2_32 y3_32 d32 y5_47 (lpB n47 (bX6_printLine_47 v x1 y2_32 y3_32 d32 y5_47) v_47)))) → SI (v_47 0) ∧ fX6_partsOf v_47 x1 = y3_32 → ∀ (H : Heap) (locs : List Loc), PW G (mdW G q v_47 hs) H → va_S (mdA q) s.heap H locs → ∀ (ls : Array Slot), lv_has ls 6 [(0, .ref (q 0)), (1, .int x1), (2, .int y2_32), (3, .int y3_32), (4, .int (nI d32)), (5, .int y5_47)] → W p l e ({ frames := 5, cells := 0, slots := 0, locals := 116 }) s m ([.ref (q 0), .int x1] : List Value).toArray below meth c H locs 0 0 (MQ below (QE (some (.int (fX6_printLine v x1).2)) (fun H => PW G (mdW G q (fX6_printLine v x1).1 hs) H) (mdA q)) ([.ref (q 0), .int x1] : List Value).toArray s 0 0 (mdA q)) (F0 m 47 ls []) := by
          intro y5_47
          intro n47
          induction n47 with
          | zero =>
            intro v_47 hT
            exact hT.elim
          | succ n47 ih =>
            intro v_47 hT hg hI H locs hP hS ls hl
            have hg : fX6_printLine v x1 = (tX6_printLine_32 v x1 y2_32 y3_32 (lpF n32 (d32 + 1) (bX6_printLine_32 v x1 y2_32 y3_32) (tX6_printLine_47 v x1 y2_32 y3_32 d32 y5_47 (lpBs n47 (bX6_printLine_47 v x1 y2_32 y3_32 d32 y5_47) (bX6_printLine_47 v x1 y2_32 y3_32 d32 y5_47 v_47))))) := hg
            have hT : lpTs n47 (bX6_printLine_47 v x1 y2_32 y3_32 d32 y5_47) (bX6_printLine_47 v x1 y2_32 y3_32 d32 y5_47 v_47) := hT
            refine lv_aload_n hC.1 hC.2.1 dX6_printLine_47 rfl (lv_at hl 0 rfl) ?_
            refine lv_iload_n hC.1 hC.2.1 dX6_printLine_48 rfl (lv_at hl 1 rfl) ?_
            refine lv_iload hC.1 hC.2.1 dX6_printLine_49 (lv_at hl 5 rfl) ?_
            refine runP (rV (B := fun U H => PW G (mdW G q v_47 hs) H) (As := [.int x1, .int y5_47]) (rest := []) hC mwX6_isCool (c_X6_isCool l G q v_47 hs x1 y5_47) iwX6_isCool wd_999 ⟨rfl, rfl⟩ ⟨Nat.le_of_ble_eq_true rfl, Nat.le_of_ble_eq_true rfl⟩ (stb_h (fun H => PW G (mdW G q v_47 hs) H)) (hKN.go hAL hS) hP (va_recv (hKN.go hAL hS).k hP (ci := 6) (q0 := 0) rfl rfl) rfl hl.1 rfl (Nat.le_of_ble_eq_true rfl) dX6_printLine_51 ⟨Nat.zero_le _, Nat.zero_le _⟩) ?_
            refine lv_if_ne (tgt := 75) hC.1 hC.2.1 dX6_printLine_54 (by decide) (fun k54 => ?_) (fun k54 => ?_)
            · have e_28 : bX6_printLine_47 v x1 y2_32 y3_32 d32 y5_47 v_47 = (false, v_47) := by delta bX6_printLine_47; exact Eq.trans (if_neg k54) rfl
              have hg : fX6_printLine v x1 = (tX6_printLine_32 v x1 y2_32 y3_32 (lpF n32 (d32 + 1) (bX6_printLine_32 v x1 y2_32 y3_32) (tX6_printLine_47 v x1 y2_32 y3_32 d32 y5_47 v_47))) := by have e2 := congrArg (fun z => (tX6_printLine_32 v x1 y2_32 y3_32 (lpF n32 (d32 + 1) (bX6_printLine_32 v x1 y2_32 y3_32) (tX6_printLine_47 v x1 y2_32 y3_32 d32 y5_47 (lpBs n47 (bX6_printLine_47 v x1 y2_32 y3_32 d32 y5_47) z))))) e_28; exact hg.trans e2
              have hT : lpTs n47 (bX6_printLine_47 v x1 y2_32 y3_32 d32 y5_47) (false, v_47) := by rw [← e_28]; exact hT
              exact A47 y5_47 v_47 hg hI _ _ hP hS _ (lv_sub hl [0, 1, 2, 3, 4, 5] rfl)
            · refine lv_aload_n hC.1 hC.2.1 dX6_printLine_57 rfl (lv_at hl 0 rfl) ?_
              refine lv_iconst (v := 1) hC.1 hC.2.1 dX6_printLine_58 (by decide) ?_
              refine runE (rV (B := fun U H => PW G (mdW G q v_47 hs) H) (As := [.int 1]) (rest := []) hC mwX6_pass (c_X6_pass l G q v_47 hs 1 hq hI.1) iwX6_pass wd_1011 ⟨rfl, rfl⟩ ⟨Nat.le_of_ble_eq_true rfl, Nat.le_of_ble_eq_true rfl⟩ (stb_h (fun H => PW G (mdW G q v_47 hs) H)) (hKN.go hAL hS) hP (va_recv (hKN.go hAL hS).k hP (ci := 6) (q0 := 0) rfl rfl) rfl hl.1 rfl (Nat.le_of_ble_eq_true rfl) dX6_printLine_59 ⟨Nat.zero_le _, Nat.zero_le _⟩) hS (fun _ h => h) (fun _ h => h) (fun H locs hq_29 _ _ hS => ?_)
              have hP : PW G (mdW G q (fX6_pass v_47 1) hs) H := hq_29
              obtain ⟨r_30, er_30⟩ : ∃ z, z = fX6_pass v_47 1 := ⟨_, rfl⟩
              rw [← er_30] at hP
              have hI : SI (r_30 0) ∧ fX6_partsOf r_30 x1 = y3_32 := by rw [er_30]; exact (KK (S_pass _ _) hI)
              refine lv_aload_n hC.1 hC.2.1 dX6_printLine_62 rfl (lv_at hl 0 rfl) ?_
              refine lv_dup hC.1 hC.2.1 dX6_printLine_63 rfl ?_
              refine gf (v := .int (r_30 8 3)) hC fwX6 (hKN.go hAL hS) hP 0 rfl rfl 7 (by decide) rfl wd_894 rfl dX6_printLine_64 ?_
              refine lv_iconst (v := 1) hC.1 hC.2.1 dX6_printLine_67 (by decide) ?_
              refine lv_iadd hC.1 hC.2.1 dX6_printLine_68 ?_
              refine lv_topi (fun w_31 ew_31 => ?_)
              refine pf (v := .int w_31) (tv := .int) hC fwX6 (hKN.go hAL hS) hP (mdD_D hq r_30 hs) hS 0 rfl rfl 7 (by decide) rfl wd_894 rfl rfl rfl (Nat.le_of_ble_eq_true rfl) dX6_printLine_69 (fun H locs hq_32 hS => ?_)
              have hP : PW G (mdW G q (mkM (r_30 0) (r_30 1) (r_30 2) (r_30 3) (r_30 4) (r_30 5) (r_30 6) (r_30 7) (r_30 8 0) (r_30 8 1) (r_30 8 2) w_31 (r_30 8 4) (r_30 8 5) (r_30 8 6) (r_30 8 7) (r_30 8 8)) hs) H := hq_32
              have hI : SI ((mkM (r_30 0) (r_30 1) (r_30 2) (r_30 3) (r_30 4) (r_30 5) (r_30 6) (r_30 7) (r_30 8 0) (r_30 8 1) (r_30 8 2) w_31 (r_30 8 4) (r_30 8 5) (r_30 8 6) (r_30 8 7) (r_30 8 8)) 0) ∧ fX6_partsOf (mkM (r_30 0) (r_30 1) (r_30 2) (r_30 3) (r_30 4) (r_30 5) (r_30 6) (r_30 7) (r_30 8 0) (r_30 8 1) (r_30 8 2) w_31 (r_30 8 4) (r_30 8 5) (r_30 8 6) (r_30 8 7) (r_30 8 8)) x1 = y3_32 := (KKr hI (EqS.rf _))
              refine lv_goto (tgt := 47) hC.1 hC.2.1 dX6_printLine_72 (by decide) ?_
              have e_33 : bX6_printLine_47 v x1 y2_32 y3_32 d32 y5_47 v_47 = (true, mkM (r_30 0) (r_30 1) (r_30 2) (r_30 3) (r_30 4) (r_30 5) (r_30 6) (r_30 7) (r_30 8 0) (r_30 8 1) (r_30 8 2) w_31 (r_30 8 4) (r_30 8 5) (r_30 8 6) (r_30 8 7) (r_30 8 8)) := by subst ew_31; subst er_30; delta bX6_printLine_47; exact Eq.trans (if_pos k54) rfl
              have hg : fX6_printLine v x1 = (tX6_printLine_32 v x1 y2_32 y3_32 (lpF n32 (d32 + 1) (bX6_printLine_32 v x1 y2_32 y3_32) (tX6_printLine_47 v x1 y2_32 y3_32 d32 y5_47 (lpB n47 (bX6_printLine_47 v x1 y2_32 y3_32 d32 y5_47) (mkM (r_30 0) (r_30 1) (r_30 2) (r_30 3) (r_30 4) (r_30 5) (r_30 6) (r_30 7) (r_30 8 0) (r_30 8 1) (r_30 8 2) w_31 (r_30 8 4) (r_30 8 5) (r_30 8 6) (r_30 8 7) (r_30 8 8)))))) := by have e2 := congrArg (fun z => (tX6_printLine_32 v x1 y2_32 y3_32 (lpF n32 (d32 + 1) (bX6_printLine_32 v x1 y2_32 y3_32) (tX6_printLine_47 v x1 y2_32 y3_32 d32 y5_47 (lpBs n47 (bX6_printLine_47 v x1 y2_32 y3_32 d32 y5_47) z))))) e_33; exact hg.trans e2
              have hT : lpTs n47 (bX6_printLine_47 v x1 y2_32 y3_32 d32 y5_47) (true, mkM (r_30 0) (r_30 1) (r_30 2) (r_30 3) (r_30 4) (r_30 5) (r_30 6) (r_30 7) (r_30 8 0) (r_30 8 1) (r_30 8 2) w_31 (r_30 8 4) (r_30 8 5) (r_30 8 6) (r_30 8 7) (r_30 8 8)) := by rw [← e_33]; exact hT
              exact ih (mkM (r_30 0) (r_30 1) (r_30 2) (r_30 3) (r_30 4) (r_30 5) (r_30 6) (r_30 7) (r_30 8 0) (r_30 8 1) (r_30 8 2) w_31 (r_30 8 4) (r_30 8 5) (r_30 8 6) (r_30 8 7) (r_30 8 8)) (lpT_go hT) hg hI _ _ hP hS _ (lv_sub hl [0, 1, 2, 3, 4, 5] rfl)
        have e_34 : bX6_printLine_32 v x1 y2_32 y3_32 d32 v_32 = tX6_printLine_47 v x1 y2_32 y3_32 d32 (fX6_dotsOfPart v_32 x1 (nI d32)) (lpB (mT + 1) (bX6_printLine_47 v x1 y2_32 y3_32 d32 (fX6_dotsOfPart v_32 x1 (nI d32))) v_32) := by exact rfl
        have hg : fX6_printLine v x1 = (tX6_printLine_32 v x1 y2_32 y3_32 (lpF n32 (d32 + 1) (bX6_printLine_32 v x1 y2_32 y3_32) (tX6_printLine_47 v x1 y2_32 y3_32 d32 (fX6_dotsOfPart v_32 x1 (nI d32)) (lpB (mT + 1) (bX6_printLine_47 v x1 y2_32 y3_32 d32 (fX6_dotsOfPart v_32 x1 (nI d32))) v_32)))) := by have e2 := congrArg (fun z => (tX6_printLine_32 v x1 y2_32 y3_32 (lpF n32 (d32 + 1) (bX6_printLine_32 v x1 y2_32 y3_32) z))) e_34; exact hg.trans e2
        exact L47 (fX6_dotsOfPart v_32 x1 (nI d32)) (mT + 1) v_32 (T_printLine v x1 _ _ _ _ _ hI.1) hg hI _ _ hP hS _ (lv_sub hl [1, 2, 3, 4, 5, 0] rfl)
  have e_35 : fX6_printLine v x1 = tX6_printLine_32 v x1 ((v 0) 82) (fX6_partsOf v x1) (lpF ((fX6_partsOf v x1).toNatClampNeg) 0 (bX6_printLine_32 v x1 ((v 0) 82) (fX6_partsOf v x1)) (mkM (v 0) (v 1) (v 2) (v 3) (v 4) (v 5) (v 6) (v 7) (v 8 0) (v 8 1) (v 8 2) 0 0 0 (v 8 6) (v 8 7) (v 8 8))) := by exact rfl
  have hg : fX6_printLine v x1 = (tX6_printLine_32 v x1 ((v 0) 82) (fX6_partsOf v x1) (lpF ((fX6_partsOf v x1).toNatClampNeg) 0 (bX6_printLine_32 v x1 ((v 0) 82) (fX6_partsOf v x1)) (mkM (v 0) (v 1) (v 2) (v 3) (v 4) (v 5) (v 6) (v 7) (v 8 0) (v 8 1) (v 8 2) 0 0 0 (v 8 6) (v 8 7) (v 8 8)))) := by have e2 := congrArg (fun z => z) e_35; exact hg.trans e2
  exact L32 ((v 0) 82) (fX6_partsOf v x1) ((fX6_partsOf v x1).toNatClampNeg) 0 (mkM (v 0) (v 1) (v 2) (v 3) (v 4) (v 5) (v 6) (v 7) (v 8 0) (v 8 1) (v 8 2) 0 0 0 (v 8 6) (v 8 7) (v 8 8)) (by omega) hg (by first | exact hI | exact ⟨hI, rfl⟩) _ _ hP hS _ (lv_sub hl [3, 4, 2, 1, 0] rfl)
