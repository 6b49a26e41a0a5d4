def fX5_counted (x : HV) (x1 : Int32) : Int32 := if x1 = 0 then ((x 0) 8 1) else if x1 = 1 then ((x 0) 8 2) else if x1 = 2 then ((x 0) 8 3) else if x1 = 3 then ((x 0) 8 4) else if x1 = 4 then ((x 0) 8 5) else if x1 = 5 then (fX4_dotByDot (x 0)) else if x1 = 6 then ((x 0) 8 6) else if x1 = 7 then (fX2_hottestDot (x 0)) else if x1 = 8 then ((x 0) 8 7) else if x1 = 9 then ((x 0) 8 10) else if x1 = 10 then ((x 0) 8 0) else if x1 = 11 then (fX2_setting (x 0) (x1 - 11)) else if x1 = 12 then (fX2_setting (x 0) (x1 - 11)) else if x1 = 13 then (fX2_setting (x 0) (x1 - 11)) else if x1 = 14 then (fX2_setting (x 0) (x1 - 11)) else if x1 = 15 then (fX2_setting (x 0) (x1 - 11)) else if x1 = 16 then (fX2_setting (x 0) (x1 - 11)) else if x1 = 17 then (fX2_setting (x 0) (x1 - 11)) else if x1 = 18 then (x 9 2 0) else (fX2_setting (x 0) (x1 - 11))
def fX5_tryLine (x : HV) (x1 : Int32) (x2 : Int32) : HV := let r_2 := fX2_copyFrom (x 2) (x 0)
  let r_5 := fX2_changeSetting r_2 5 x2
  let w_7 : Int32 := fX2_hottestDot (x 0); let r_10 := fX2_printLine (mkS (r_5 0) (r_5 1) (r_5 2) (r_5 3) (r_5 4) (r_5 5) (r_5 6) (r_5 7) (r_5 8 0) (r_5 8 1) (r_5 8 2) (r_5 8 3) (r_5 8 4) (r_5 8 5) (r_5 8 6) w_7 (r_5 8 8) (r_5 8 9) (r_5 8 10)) x1
  mkH (x 0) (x 1) r_10.1 (x 3) (x 4) (x 5) (x 6) (x 7) (x 8) (x 9 0) (x 9 1) (x 9 2 0) (x 9 2 1) (x 9 2 2) 
def fX5_tried (x : HV) (x1 : Int32) : Int32 := if x1 = 0 then (((x 2) 8 1) - ((x 0) 8 1)) else if x1 = 1 then (((x 2) 8 4) - ((x 0) 8 4)) else if x1 = 2 then (((x 2) 8 3) - ((x 0) 8 3)) else if x1 = 3 then (((x 2) 8 6) - ((x 0) 8 6)) else ((x 2) 8 7)
def fX5_fasterWay (x : HV) (x1 : Int32) : HV × Int32 := let r_2 := fX5_tryLine x x1 0
  let r_4 := fX5_tryLine r_2 x1 1
  if (fX5_tried r_2 0) ≤ (fX5_tried r_4 0) then ((r_4, 0)) else ((r_4, 1))
theorem dX5_counted_0 : decode cX5_counted 0 = .ok (.aload_n 0, 1) := by decide +kernel
theorem dX5_counted_1 : decode cX5_counted 1 = .ok (.getfield 10, 3) := by decide +kernel
theorem dX5_counted_4 : decode cX5_counted 4 = .ok (.getfield 72, 3) := by decide +kernel
theorem dX5_counted_7 : decode cX5_counted 7 = .ok (.astore_n 2, 1) := by decide +kernel
theorem dX5_counted_8 : decode cX5_counted 8 = .ok (.iload_n 1, 1) := by decide +kernel
theorem dX5_counted_9 : decode cX5_counted 9 = .ok (.tableswitch 163 0 18 #[91, 96, 101, 106, 111, 116, 121, 126, 134, 139, 147, 163, 163, 163, 163, 163, 163, 163, 158], 91) := by decide +kernel
theorem dX5_counted_100 : decode cX5_counted 100 = .ok (.aload_n 2, 1) := by decide +kernel
theorem dX5_counted_101 : decode cX5_counted 101 = .ok (.getfield 283, 3) := by decide +kernel
theorem dX5_counted_104 : decode cX5_counted 104 = .ok (.ireturn, 1) := by decide +kernel
theorem dX5_counted_105 : decode cX5_counted 105 = .ok (.aload_n 2, 1) := by decide +kernel
theorem dX5_counted_106 : decode cX5_counted 106 = .ok (.getfield 158, 3) := by decide +kernel
theorem dX5_counted_109 : decode cX5_counted 109 = .ok (.ireturn, 1) := by decide +kernel
theorem dX5_counted_110 : decode cX5_counted 110 = .ok (.aload_n 2, 1) := by decide +kernel
theorem dX5_counted_111 : decode cX5_counted 111 = .ok (.getfield 285, 3) := by decide +kernel
theorem dX5_counted_114 : decode cX5_counted 114 = .ok (.ireturn, 1) := by decide +kernel
theorem dX5_counted_115 : decode cX5_counted 115 = .ok (.aload_n 2, 1) := by decide +kernel
theorem dX5_counted_116 : decode cX5_counted 116 = .ok (.getfield 288, 3) := by decide +kernel
theorem dX5_counted_119 : decode cX5_counted 119 = .ok (.ireturn, 1) := by decide +kernel
theorem dX5_counted_120 : decode cX5_counted 120 = .ok (.aload_n 2, 1) := by decide +kernel
theorem dX5_counted_121 : decode cX5_counted 121 = .ok (.getfield 291, 3) := by decide +kernel
theorem dX5_counted_124 : decode cX5_counted 124 = .ok (.ireturn, 1) := by decide +kernel
theorem dX5_counted_125 : decode cX5_counted 125 = .ok (.aload_n 2, 1) := by decide +kernel
theorem dX5_counted_126 : decode cX5_counted 126 = .ok (.invokevirtual 292, 3) := by decide +kernel
theorem dX5_counted_129 : decode cX5_counted 129 = .ok (.ireturn, 1) := by decide +kernel
theorem dX5_counted_130 : decode cX5_counted 130 = .ok (.aload_n 2, 1) := by decide +kernel
theorem dX5_counted_131 : decode cX5_counted 131 = .ok (.getfield 76, 3) := by decide +kernel
theorem dX5_counted_134 : decode cX5_counted 134 = .ok (.ireturn, 1) := by decide +kernel
theorem dX5_counted_135 : decode cX5_counted 135 = .ok (.aload_n 0, 1) := by decide +kernel
theorem dX5_counted_136 : decode cX5_counted 136 = .ok (.getfield 10, 3) := by decide +kernel
theorem dX5_counted_139 : decode cX5_counted 139 = .ok (.invokevirtual 91, 3) := by decide +kernel
theorem dX5_counted_142 : decode cX5_counted 142 = .ok (.ireturn, 1) := by decide +kernel
theorem dX5_counted_143 : decode cX5_counted 143 = .ok (.aload_n 2, 1) := by decide +kernel
theorem dX5_counted_144 : decode cX5_counted 144 = .ok (.getfield 295, 3) := by decide +kernel
theorem dX5_counted_147 : decode cX5_counted 147 = .ok (.ireturn, 1) := by decide +kernel
theorem dX5_counted_148 : decode cX5_counted 148 = .ok (.aload_n 0, 1) := by decide +kernel
theorem dX5_counted_149 : decode cX5_counted 149 = .ok (.getfield 10, 3) := by decide +kernel
theorem dX5_counted_152 : decode cX5_counted 152 = .ok (.getfield 298, 3) := by decide +kernel
theorem dX5_counted_155 : decode cX5_counted 155 = .ok (.ireturn, 1) := by decide +kernel
theorem dX5_counted_156 : decode cX5_counted 156 = .ok (.aload_n 0, 1) := by decide +kernel
theorem dX5_counted_157 : decode cX5_counted 157 = .ok (.getfield 10, 3) := by decide +kernel
theorem dX5_counted_160 : decode cX5_counted 160 = .ok (.getfield 97, 3) := by decide +kernel
theorem dX5_counted_163 : decode cX5_counted 163 = .ok (.getfield 101, 3) := by decide +kernel
theorem dX5_counted_166 : decode cX5_counted 166 = .ok (.ireturn, 1) := by decide +kernel
theorem dX5_counted_167 : decode cX5_counted 167 = .ok (.aload_n 0, 1) := by decide +kernel
theorem dX5_counted_168 : decode cX5_counted 168 = .ok (.getfield 40, 3) := by decide +kernel
theorem dX5_counted_171 : decode cX5_counted 171 = .ok (.ireturn, 1) := by decide +kernel
theorem dX5_counted_172 : decode cX5_counted 172 = .ok (.aload_n 0, 1) := by decide +kernel
theorem dX5_counted_173 : decode cX5_counted 173 = .ok (.getfield 10, 3) := by decide +kernel
theorem dX5_counted_176 : decode cX5_counted 176 = .ok (.iload_n 1, 1) := by decide +kernel
theorem dX5_counted_177 : decode cX5_counted 177 = .ok (.bipush 11, 2) := by decide +kernel
theorem dX5_counted_179 : decode cX5_counted 179 = .ok (.isub, 1) := by decide +kernel
theorem dX5_counted_180 : decode cX5_counted 180 = .ok (.invokevirtual 127, 3) := by decide +kernel
theorem dX5_counted_183 : decode cX5_counted 183 = .ok (.ireturn, 1) := by decide +kernel
set_option maxHeartbeats 1000000 in
set_option maxRecDepth 100000 in
theorem c_X5_counted (l : Launch) (G : GT) (a : Nat → Nat) (b : Nat → Nat) (x : HV) (x1 : Int32) : Met l yX5_counted (Cond.code yX5_counted cX5_counted 3 (some .int) :: bigW) ({ frames := 2, cells := 0, slots := 0, locals := 46 }) (BP G [.ref (a 0), .int x1] (fun U H => PW G (hdW G a b x) H)) (QP (.int (fX5_counted x x1))) 0 0 (fun _ => False) := by
  refine met_of (by decide) (Nat.le_of_ble_eq_true rfl) ?_
  intro p e s m below meth c ls hC hKN hB0 hl
  have hP := hB0
  have hl : lv_has ls 3 [(0, .ref (a 0)), (1, .int x1)] := hl
  have hg : fX5_counted x x1 = fX5_counted x x1 := rfl
  refine lv_aload_n hC.1 hC.2.1 dX5_counted_0 rfl (lv_at hl 0 rfl) ?_
  refine gf (v := .ref (a 5)) hC fwX5 hKN hP 0 rfl rfl 0 (by decide) rfl wd_189 rfl dX5_counted_1 ?_
  refine gfN (v := .ref (sA a 0 8)) hC fwX2 hKN hP 5 rfl rfl 4 (by decide) rfl (nf_16 hKN) rfl dX5_counted_4 ?_
  refine lv_astore_n (lv' := [(2, .ref (sA a 0 8)), (0, .ref (a 0)), (1, .int x1)]) hC.1 hC.2.1 dX5_counted_7 rfl hl (by decide) rfl (fun ls hl => ?_)
  refine lv_iload_n hC.1 hC.2.1 dX5_counted_8 rfl (lv_at hl 2 rfl) ?_
  by_cases k9_0 : x1 = 0
  · refine swIn hC (tgt := 100) 0 k9_0 dX5_counted_9 (by decide) (by decide) rfl (by decide) ?_
    refine lv_aload_n hC.1 hC.2.1 dX5_counted_100 rfl (lv_at hl 0 rfl) ?_
    refine gfN (v := .int ((x 0) 8 1)) hC fwX4 hKN hP 13 rfl rfl 2 (by decide) rfl (nf_6 hKN) rfl dX5_counted_101 ?_
    have e_1 : fX5_counted x x1 = (x 0) 8 1 := by delta fX5_counted; exact Eq.trans (if_pos k9_0) rfl
    have hg : fX5_counted x x1 = (x 0) 8 1 := by have e2 := congrArg (fun z => z) e_1; exact hg.trans e2
    exact eP_i hC (congrArg Value.int hg) dX5_counted_104
  · skip
    by_cases k9_1 : x1 = 1
    · refine swIn hC (tgt := 105) 1 k9_1 dX5_counted_9 (by decide) (by decide) rfl (by decide) ?_
      refine lv_aload_n hC.1 hC.2.1 dX5_counted_105 rfl (lv_at hl 0 rfl) ?_
      refine gfN (v := .int ((x 0) 8 2)) hC fwX4 hKN hP 13 rfl rfl 3 (by decide) rfl (nf_7 hKN) rfl dX5_counted_106 ?_
      have e_2 : fX5_counted x x1 = (x 0) 8 2 := by delta fX5_counted; exact Eq.trans (if_neg k9_0) (Eq.trans (if_pos k9_1) rfl)
      have hg : fX5_counted x x1 = (x 0) 8 2 := by have e2 := congrArg (fun z => z) e_2; exact hg.trans e2
      exact eP_i hC (congrArg Value.int hg) dX5_counted_109
    · skip
      by_cases k9_2 : x1 = 2
      · refine swIn hC (tgt := 110) 2 k9_2 dX5_counted_9 (by decide) (by decide) rfl (by decide) ?_
        refine lv_aload_n hC.1 hC.2.1 dX5_counted_110 rfl (lv_at hl 0 rfl) ?_
        refine gfN (v := .int ((x 0) 8 3)) hC fwX4 hKN hP 13 rfl rfl 4 (by decide) rfl (nf_8 hKN) rfl dX5_counted_111 ?_
        have e_3 : fX5_counted x x1 = (x 0) 8 3 := by delta fX5_counted; exact Eq.trans (if_neg k9_0) (Eq.trans (if_neg k9_1) (Eq.trans (if_pos k9_2) rfl))
        have hg : fX5_counted x x1 = (x 0) 8 3 := by have e2 := congrArg (fun z => z) e_3; exact hg.trans e2
        exact eP_i hC (congrArg Value.int hg) dX5_counted_114
      · skip
        by_cases k9_3 : x1 = 3
        · refine swIn hC (tgt := 115) 3 k9_3 dX5_counted_9 (by decide) (by decide) rfl (by decide) ?_
          refine lv_aload_n hC.1 hC.2.1 dX5_counted_115 rfl (lv_at hl 0 rfl) ?_
          refine gfN (v := .int ((x 0) 8 4)) hC fwX4 hKN hP 13 rfl rfl 5 (by decide) rfl (nf_10 hKN) rfl dX5_counted_116 ?_
          have e_4 : fX5_counted x x1 = (x 0) 8 4 := by delta fX5_counted; exact Eq.trans (if_neg k9_0) (Eq.trans (if_neg k9_1) (Eq.trans (if_neg k9_2) (Eq.trans (if_pos k9_3) rfl)))
          have hg : fX5_counted x x1 = (x 0) 8 4 := by have e2 := congrArg (fun z => z) e_4; exact hg.trans e2
          exact eP_i hC (congrArg Value.int hg) dX5_counted_119
        · skip
          by_cases k9_4 : x1 = 4
          · refine swIn hC (tgt := 120) 4 k9_4 dX5_counted_9 (by decide) (by decide) rfl (by decide) ?_
            refine lv_aload_n hC.1 hC.2.1 dX5_counted_120 rfl (lv_at hl 0 rfl) ?_
            refine gfN (v := .int ((x 0) 8 5)) hC fwX4 hKN hP 13 rfl rfl 6 (by decide) rfl (nf_11 hKN) rfl dX5_counted_121 ?_
            have e_5 : fX5_counted x x1 = (x 0) 8 5 := by delta fX5_counted; exact Eq.trans (if_neg k9_0) (Eq.trans (if_neg k9_1) (Eq.trans (if_neg k9_2) (Eq.trans (if_neg k9_3) (Eq.trans (if_pos k9_4) rfl))))
            have hg : fX5_counted x x1 = (x 0) 8 5 := by have e2 := congrArg (fun z => z) e_5; exact hg.trans e2
            exact eP_i hC (congrArg Value.int hg) dX5_counted_124
          · skip
            by_cases k9_5 : x1 = 5
            · refine swIn hC (tgt := 125) 5 k9_5 dX5_counted_9 (by decide) (by decide) rfl (by decide) ?_
              refine lv_aload_n hC.1 hC.2.1 dX5_counted_125 rfl (lv_at hl 0 rfl) ?_
              refine runP (rV (B := fun U H => PW G (stW G (sA a 0) (x 0)) H) (As := []) (rest := []) hC mwX4_dotByDot (c_X4_dotByDot l G (sA a 0) (x 0)) iwX4_dotByDot wd_366 ⟨rfl, rfl⟩ ⟨Nat.le_of_ble_eq_true rfl, Nat.le_of_ble_eq_true rfl⟩ (stb_h (fun H => PW G (stW G (sA a 0) (x 0)) H)) hKN (hd_st0 (x := x) hP) (va_recv hKN.k (hd_st0 (x := x) hP) (ci := 4) (q0 := 8) rfl rfl) rfl hl.1 rfl (Nat.le_of_ble_eq_true rfl) dX5_counted_126 ⟨Nat.zero_le _, Nat.zero_le _⟩) ?_
              have e_6 : fX5_counted x x1 = fX4_dotByDot (x 0) := by delta fX5_counted; exact Eq.trans (if_neg k9_0) (Eq.trans (if_neg k9_1) (Eq.trans (if_neg k9_2) (Eq.trans (if_neg k9_3) (Eq.trans (if_neg k9_4) (Eq.trans (if_pos k9_5) rfl)))))
              have hg : fX5_counted x x1 = fX4_dotByDot (x 0) := by have e2 := congrArg (fun z => z) e_6; exact hg.trans e2
              exact eP_i hC (congrArg Value.int hg) dX5_counted_129
            · skip
              by_cases k9_6 : x1 = 6
              · refine swIn hC (tgt := 130) 6 k9_6 dX5_counted_9 (by decide) (by decide) rfl (by decide) ?_
                refine lv_aload_n hC.1 hC.2.1 dX5_counted_130 rfl (lv_at hl 0 rfl) ?_
                refine gfN (v := .int ((x 0) 8 6)) hC fwX4 hKN hP 13 rfl rfl 7 (by decide) rfl (nf_12 hKN) rfl dX5_counted_131 ?_
                have e_7 : fX5_counted x x1 = (x 0) 8 6 := by delta fX5_counted; exact Eq.trans (if_neg k9_0) (Eq.trans (if_neg k9_1) (Eq.trans (if_neg k9_2) (Eq.trans (if_neg k9_3) (Eq.trans (if_neg k9_4) (Eq.trans (if_neg k9_5) (Eq.trans (if_pos k9_6) rfl))))))
                have hg : fX5_counted x x1 = (x 0) 8 6 := by have e2 := congrArg (fun z => z) e_7; exact hg.trans e2
                exact eP_i hC (congrArg Value.int hg) dX5_counted_134
              · skip
                by_cases k9_7 : x1 = 7
                · refine swIn hC (tgt := 135) 7 k9_7 dX5_counted_9 (by decide) (by decide) rfl (by decide) ?_
                  refine lv_aload_n hC.1 hC.2.1 dX5_counted_135 rfl (lv_at hl 1 rfl) ?_
                  refine gf (v := .ref (a 5)) hC fwX5 hKN hP 0 rfl rfl 0 (by decide) rfl wd_189 rfl dX5_counted_136 ?_
                  refine runP (rV (B := fun U H => PW G (stW G (sA a 0) (x 0)) H) (As := []) (rest := []) hC mwX2_hottestDot (c_X2_hottestDot l G (sA a 0) (x 0)) iwX2_hottestDot wd_370 ⟨rfl, rfl⟩ ⟨Nat.le_of_ble_eq_true rfl, Nat.le_of_ble_eq_true rfl⟩ (stb_h (fun H => PW G (stW G (sA a 0) (x 0)) H)) hKN (hd_st0 (x := x) hP) (va_recv hKN.k (hd_st0 (x := x) hP) (ci := 2) (q0 := 0) rfl rfl) rfl hl.1 rfl (Nat.le_of_ble_eq_true rfl) dX5_counted_139 ⟨Nat.zero_le _, Nat.zero_le _⟩) ?_
                  have e_8 : fX5_counted x x1 = fX2_hottestDot (x 0) := by delta fX5_counted; exact Eq.trans (if_neg k9_0) (Eq.trans (if_neg k9_1) (Eq.trans (if_neg k9_2) (Eq.trans (if_neg k9_3) (Eq.trans (if_neg k9_4) (Eq.trans (if_neg k9_5) (Eq.trans (if_neg k9_6) (Eq.trans (if_pos k9_7) rfl)))))))
                  have hg : fX5_counted x x1 = fX2_hottestDot (x 0) := by have e2 := congrArg (fun z => z) e_8; exact hg.trans e2
                  exact eP_i hC (congrArg Value.int hg) dX5_counted_142
                · skip
                  by_cases k9_8 : x1 = 8
                  · refine swIn hC (tgt := 143) 8 k9_8 dX5_counted_9 (by decide) (by decide) rfl (by decide) ?_
                    refine lv_aload_n hC.1 hC.2.1 dX5_counted_143 rfl (lv_at hl 0 rfl) ?_
                    refine gfN (v := .int ((x 0) 8 7)) hC fwX4 hKN hP 13 rfl rfl 8 (by decide) rfl (nf_14 hKN) rfl dX5_counted_144 ?_
                    have e_9 : fX5_counted x x1 = (x 0) 8 7 := by delta fX5_counted; exact Eq.trans (if_neg k9_0) (Eq.trans (if_neg k9_1) (Eq.trans (if_neg k9_2) (Eq.trans (if_neg k9_3) (Eq.trans (if_neg k9_4) (Eq.trans (if_neg k9_5) (Eq.trans (if_neg k9_6) (Eq.trans (if_neg k9_7) (Eq.trans (if_pos k9_8) rfl))))))))
                    have hg : fX5_counted x x1 = (x 0) 8 7 := by have e2 := congrArg (fun z => z) e_9; exact hg.trans e2
                    exact eP_i hC (congrArg Value.int hg) dX5_counted_147
                  · skip
                    by_cases k9_9 : x1 = 9
                    · refine swIn hC (tgt := 148) 9 k9_9 dX5_counted_9 (by decide) (by decide) rfl (by decide) ?_
                      refine lv_aload_n hC.1 hC.2.1 dX5_counted_148 rfl (lv_at hl 1 rfl) ?_
                      refine gf (v := .ref (a 5)) hC fwX5 hKN hP 0 rfl rfl 0 (by decide) rfl wd_189 rfl dX5_counted_149 ?_
                      refine gfN (v := .int ((x 0) 8 10)) hC fwX2 hKN hP 5 rfl rfl 7 (by decide) rfl (nf_17 hKN) rfl dX5_counted_152 ?_
                      have e_10 : fX5_counted x x1 = (x 0) 8 10 := by delta fX5_counted; exact Eq.trans (if_neg k9_0) (Eq.trans (if_neg k9_1) (Eq.trans (if_neg k9_2) (Eq.trans (if_neg k9_3) (Eq.trans (if_neg k9_4) (Eq.trans (if_neg k9_5) (Eq.trans (if_neg k9_6) (Eq.trans (if_neg k9_7) (Eq.trans (if_neg k9_8) (Eq.trans (if_pos k9_9) rfl)))))))))
                      have hg : fX5_counted x x1 = (x 0) 8 10 := by have e2 := congrArg (fun z => z) e_10; exact hg.trans e2
                      exact eP_i hC (congrArg Value.int hg) dX5_counted_155
                    · skip
                      by_cases k9_10 : x1 = 10
                      · refine swIn hC (tgt := 156) 10 k9_10 dX5_counted_9 (by decide) (by decide) rfl (by decide) ?_
                        refine lv_aload_n hC.1 hC.2.1 dX5_counted_156 rfl (lv_at hl 1 rfl) ?_
                        refine gf (v := .ref (a 5)) hC fwX5 hKN hP 0 rfl rfl 0 (by decide) rfl wd_189 rfl dX5_counted_157 ?_
                        refine gfN (v := .ref (sA a 0 4)) hC fwX2 hKN hP 5 rfl rfl 3 (by decide) rfl (nf_15 hKN) rfl dX5_counted_160 ?_
                        refine gfN (v := .int ((x 0) 8 0)) hC fwX3 hKN hP 9 rfl rfl 3 (by decide) rfl (nf_2 hKN) rfl dX5_counted_163 ?_
                        have e_11 : fX5_counted x x1 = (x 0) 8 0 := by delta fX5_counted; exact Eq.trans (if_neg k9_0) (Eq.trans (if_neg k9_1) (Eq.trans (if_neg k9_2) (Eq.trans (if_neg k9_3) (Eq.trans (if_neg k9_4) (Eq.trans (if_neg k9_5) (Eq.trans (if_neg k9_6) (Eq.trans (if_neg k9_7) (Eq.trans (if_neg k9_8) (Eq.trans (if_neg k9_9) (Eq.trans (if_pos k9_10) rfl))))))))))
                        have hg : fX5_counted x x1 = (x 0) 8 0 := by have e2 := congrArg (fun z => z) e_11; exact hg.trans e2
                        exact eP_i hC (congrArg Value.int hg) dX5_counted_166
                      · skip
                        by_cases k9_11 : x1 = 11
                        · refine swIn hC (tgt := 172) 11 k9_11 dX5_counted_9 (by decide) (by decide) rfl (by decide) ?_
                          refine lv_aload_n hC.1 hC.2.1 dX5_counted_172 rfl (lv_at hl 1 rfl) ?_
                          refine gf (v := .ref (a 5)) hC fwX5 hKN hP 0 rfl rfl 0 (by decide) rfl wd_189 rfl dX5_counted_173 ?_
                          refine lv_iload_n hC.1 hC.2.1 dX5_counted_176 rfl (lv_at hl 2 rfl) ?_
                          refine lv_bipush (v := 11) hC.1 hC.2.1 dX5_counted_177 (by decide +kernel) ?_
                          refine lv_isub hC.1 hC.2.1 dX5_counted_179 ?_
                          refine runP (rV (B := fun U H => PW G (stW G (sA a 0) (x 0)) H) (As := [.int (x1 - 11)]) (rest := []) hC mwX2_setting (c_X2_setting l G (sA a 0) (x 0) (x1 - 11)) iwX2_setting wd_374 ⟨rfl, rfl⟩ ⟨Nat.le_of_ble_eq_true rfl, Nat.le_of_ble_eq_true rfl⟩ (stb_h (fun H => PW G (stW G (sA a 0) (x 0)) H)) hKN (hd_st0 (x := x) hP) (va_recv hKN.k (hd_st0 (x := x) hP) (ci := 2) (q0 := 0) rfl rfl) rfl hl.1 rfl (Nat.le_of_ble_eq_true rfl) dX5_counted_180 ⟨Nat.zero_le _, Nat.zero_le _⟩) ?_
                          have e_12 : fX5_counted x x1 = fX2_setting (x 0) (x1 - 11) := by delta fX5_counted; exact Eq.trans (if_neg k9_0) (Eq.trans (if_neg k9_1) (Eq.trans (if_neg k9_2) (Eq.trans (if_neg k9_3) (Eq.trans (if_neg k9_4) (Eq.trans (if_neg k9_5) (Eq.trans (if_neg k9_6) (Eq.trans (if_neg k9_7) (Eq.trans (if_neg k9_8) (Eq.trans (if_neg k9_9) (Eq.trans (if_neg k9_10) (Eq.trans (if_pos k9_11) rfl)))))))))))
                          have hg : fX5_counted x x1 = fX2_setting (x 0) (x1 - 11) := by have e2 := congrArg (fun z => z) e_12; exact hg.trans e2
                          exact eP_i hC (congrArg Value.int hg) dX5_counted_183
                        · skip
                          by_cases k9_12 : x1 = 12
                          · refine swIn hC (tgt := 172) 12 k9_12 dX5_counted_9 (by decide) (by decide) rfl (by decide) ?_
                            refine lv_aload_n hC.1 hC.2.1 dX5_counted_172 rfl (lv_at hl 1 rfl) ?_
                            refine gf (v := .ref (a 5)) hC fwX5 hKN hP 0 rfl rfl 0 (by decide) rfl wd_189 rfl dX5_counted_173 ?_
                            refine lv_iload_n hC.1 hC.2.1 dX5_counted_176 rfl (lv_at hl 2 rfl) ?_
                            refine lv_bipush (v := 11) hC.1 hC.2.1 dX5_counted_177 (by decide +kernel) ?_
                            refine lv_isub hC.1 hC.2.1 dX5_counted_179 ?_
                            refine runP (rV (B := fun U H => PW G (stW G (sA a 0) (x 0)) H) (As := [.int (x1 - 11)]) (rest := []) hC mwX2_setting (c_X2_setting l G (sA a 0) (x 0) (x1 - 11)) iwX2_setting wd_374 ⟨rfl, rfl⟩ ⟨Nat.le_of_ble_eq_true rfl, Nat.le_of_ble_eq_true rfl⟩ (stb_h (fun H => PW G (stW G (sA a 0) (x 0)) H)) hKN (hd_st0 (x := x) hP) (va_recv hKN.k (hd_st0 (x := x) hP) (ci := 2) (q0 := 0) rfl rfl) rfl hl.1 rfl (Nat.le_of_ble_eq_true rfl) dX5_counted_180 ⟨Nat.zero_le _, Nat.zero_le _⟩) ?_
                            have e_13 : fX5_counted x x1 = fX2_setting (x 0) (x1 - 11) := by delta fX5_counted; exact Eq.trans (if_neg k9_0) (Eq.trans (if_neg k9_1) (Eq.trans (if_neg k9_2) (Eq.trans (if_neg k9_3) (Eq.trans (if_neg k9_4) (Eq.trans (if_neg k9_5) (Eq.trans (if_neg k9_6) (Eq.trans (if_neg k9_7) (Eq.trans (if_neg k9_8) (Eq.trans (if_neg k9_9) (Eq.trans (if_neg k9_10) (Eq.trans (if_neg k9_11) (Eq.trans (if_pos k9_12) rfl))))))))))))
                            have hg : fX5_counted x x1 = fX2_setting (x 0) (x1 - 11) := by have e2 := congrArg (fun z => z) e_13; exact hg.trans e2
                            exact eP_i hC (congrArg Value.int hg) dX5_counted_183
                          · skip
                            by_cases k9_13 : x1 = 13
                            · refine swIn hC (tgt := 172) 13 k9_13 dX5_counted_9 (by decide) (by decide) rfl (by decide) ?_
                              refine lv_aload_n hC.1 hC.2.1 dX5_counted_172 rfl (lv_at hl 1 rfl) ?_
                              refine gf (v := .ref (a 5)) hC fwX5 hKN hP 0 rfl rfl 0 (by decide) rfl wd_189 rfl dX5_counted_173 ?_
                              refine lv_iload_n hC.1 hC.2.1 dX5_counted_176 rfl (lv_at hl 2 rfl) ?_
                              refine lv_bipush (v := 11) hC.1 hC.2.1 dX5_counted_177 (by decide +kernel) ?_
                              refine lv_isub hC.1 hC.2.1 dX5_counted_179 ?_
                              refine runP (rV (B := fun U H => PW G (stW G (sA a 0) (x 0)) H) (As := [.int (x1 - 11)]) (rest := []) hC mwX2_setting (c_X2_setting l G (sA a 0) (x 0) (x1 - 11)) iwX2_setting wd_374 ⟨rfl, rfl⟩ ⟨Nat.le_of_ble_eq_true rfl, Nat.le_of_ble_eq_true rfl⟩ (stb_h (fun H => PW G (stW G (sA a 0) (x 0)) H)) hKN (hd_st0 (x := x) hP) (va_recv hKN.k (hd_st0 (x := x) hP) (ci := 2) (q0 := 0) rfl rfl) rfl hl.1 rfl (Nat.le_of_ble_eq_true rfl) dX5_counted_180 ⟨Nat.zero_le _, Nat.zero_le _⟩) ?_
                              have e_14 : fX5_counted x x1 = fX2_setting (x 0) (x1 - 11) := by delta fX5_counted; exact Eq.trans (if_neg k9_0) (Eq.trans (if_neg k9_1) (Eq.trans (if_neg k9_2) (Eq.trans (if_neg k9_3) (Eq.trans (if_neg k9_4) (Eq.trans (if_neg k9_5) (Eq.trans (if_neg k9_6) (Eq.trans (if_neg k9_7) (Eq.trans (if_neg k9_8) (Eq.trans (if_neg k9_9) (Eq.trans (if_neg k9_10) (Eq.trans (if_neg k9_11) (Eq.trans (if_neg k9_12) (Eq.trans (if_pos k9_13) rfl)))))))))))))
                              have hg : fX5_counted x x1 = fX2_setting (x 0) (x1 - 11) := by have e2 := congrArg (fun z => z) e_14; exact hg.trans e2
                              exact eP_i hC (congrArg Value.int hg) dX5_counted_183
                            · skip
                              by_cases k9_14 : x1 = 14
                              · refine swIn hC (tgt := 172) 14 k9_14 dX5_counted_9 (by decide) (by decide) rfl (by decide) ?_
                                refine lv_aload_n hC.1 hC.2.1 dX5_counted_172 rfl (lv_at hl 1 rfl) ?_
                                refine gf (v := .ref (a 5)) hC fwX5 hKN hP 0 rfl rfl 0 (by decide) rfl wd_189 rfl dX5_counted_173 ?_
                                refine lv_iload_n hC.1 hC.2.1 dX5_counted_176 rfl (lv_at hl 2 rfl) ?_
                                refine lv_bipush (v := 11) hC.1 hC.2.1 dX5_counted_177 (by decide +kernel) ?_
                                refine lv_isub hC.1 hC.2.1 dX5_counted_179 ?_
                                refine runP (rV (B := fun U H => PW G (stW G (sA a 0) (x 0)) H) (As := [.int (x1 - 11)]) (rest := []) hC mwX2_setting (c_X2_setting l G (sA a 0) (x 0) (x1 - 11)) iwX2_setting wd_374 ⟨rfl, rfl⟩ ⟨Nat.le_of_ble_eq_true rfl, Nat.le_of_ble_eq_true rfl⟩ (stb_h (fun H => PW G (stW G (sA a 0) (x 0)) H)) hKN (hd_st0 (x := x) hP) (va_recv hKN.k (hd_st0 (x := x) hP) (ci := 2) (q0 := 0) rfl rfl) rfl hl.1 rfl (Nat.le_of_ble_eq_true rfl) dX5_counted_180 ⟨Nat.zero_le _, Nat.zero_le _⟩) ?_
                                have e_15 : fX5_counted x x1 = fX2_setting (x 0) (x1 - 11) := by delta fX5_counted; exact Eq.trans (if_neg k9_0) (Eq.trans (if_neg k9_1) (Eq.trans (if_neg k9_2) (Eq.trans (if_neg k9_3) (Eq.trans (if_neg k9_4) (Eq.trans (if_neg k9_5) (Eq.trans (if_neg k9_6) (Eq.trans (if_neg k9_7) (Eq.trans (if_neg k9_8) (Eq.trans (if_neg k9_9) (Eq.trans (if_neg k9_10) (Eq.trans (if_neg k9_11) (Eq.trans (if_neg k9_12) (Eq.trans (if_neg k9_13) (Eq.trans (if_pos k9_14) rfl))))))))))))))
                                have hg : fX5_counted x x1 = fX2_setting (x 0) (x1 - 11) := by have e2 := congrArg (fun z => z) e_15; exact hg.trans e2
                                exact eP_i hC (congrArg Value.int hg) dX5_counted_183
                              · skip
                                by_cases k9_15 : x1 = 15
                                · refine swIn hC (tgt := 172) 15 k9_15 dX5_counted_9 (by decide) (by decide) rfl (by decide) ?_
                                  refine lv_aload_n hC.1 hC.2.1 dX5_counted_172 rfl (lv_at hl 1 rfl) ?_
                                  refine gf (v := .ref (a 5)) hC fwX5 hKN hP 0 rfl rfl 0 (by decide) rfl wd_189 rfl dX5_counted_173 ?_
                                  refine lv_iload_n hC.1 hC.2.1 dX5_counted_176 rfl (lv_at hl 2 rfl) ?_
                                  refine lv_bipush (v := 11) hC.1 hC.2.1 dX5_counted_177 (by decide +kernel) ?_
                                  refine lv_isub hC.1 hC.2.1 dX5_counted_179 ?_
                                  refine runP (rV (B := fun U H => PW G (stW G (sA a 0) (x 0)) H) (As := [.int (x1 - 11)]) (rest := []) hC mwX2_setting (c_X2_setting l G (sA a 0) (x 0) (x1 - 11)) iwX2_setting wd_374 ⟨rfl, rfl⟩ ⟨Nat.le_of_ble_eq_true rfl, Nat.le_of_ble_eq_true rfl⟩ (stb_h (fun H => PW G (stW G (sA a 0) (x 0)) H)) hKN (hd_st0 (x := x) hP) (va_recv hKN.k (hd_st0 (x := x) hP) (ci := 2) (q0 := 0) rfl rfl) rfl hl.1 rfl (Nat.le_of_ble_eq_true rfl) dX5_counted_180 ⟨Nat.zero_le _, Nat.zero_le _⟩) ?_
                                  have e_16 : fX5_counted x x1 = fX2_setting (x 0) (x1 - 11) := by delta fX5_counted; exact Eq.trans (if_neg k9_0) (Eq.trans (if_neg k9_1) (Eq.trans (if_neg k9_2) (Eq.trans (if_neg k9_3) (Eq.trans (if_neg k9_4) (Eq.trans (if_neg k9_5) (Eq.trans (if_neg k9_6) (Eq.trans (if_neg k9_7) (Eq.trans (if_neg k9_8) (Eq.trans (if_neg k9_9) (Eq.trans (if_neg k9_10) (Eq.trans (if_neg k9_11) (Eq.trans (if_neg k9_12) (Eq.trans (if_neg k9_13) (Eq.trans (if_neg k9_14) (Eq.trans (if_pos k9_15) rfl)))))))))))))))
                                  have hg : fX5_counted x x1 = fX2_setting (x 0) (x1 - 11) := by have e2 := congrArg (fun z => z) e_16; exact hg.trans e2
                                  exact eP_i hC (congrArg Value.int hg) dX5_counted_183
                                · skip
                                  by_cases k9_16 : x1 = 16
                                  · refine swIn hC (tgt := 172) 16 k9_16 dX5_counted_9 (by decide) (by decide) rfl (by decide) ?_
                                    refine lv_aload_n hC.1 hC.2.1 dX5_counted_172 rfl (lv_at hl 1 rfl) ?_
                                    refine gf (v := .ref (a 5)) hC fwX5 hKN hP 0 rfl rfl 0 (by decide) rfl wd_189 rfl dX5_counted_173 ?_
                                    refine lv_iload_n hC.1 hC.2.1 dX5_counted_176 rfl (lv_at hl 2 rfl) ?_
                                    refine lv_bipush (v := 11) hC.1 hC.2.1 dX5_counted_177 (by decide +kernel) ?_
                                    refine lv_isub hC.1 hC.2.1 dX5_counted_179 ?_
                                    refine runP (rV (B := fun U H => PW G (stW G (sA a 0) (x 0)) H) (As := [.int (x1 - 11)]) (rest := []) hC mwX2_setting (c_X2_setting l G (sA a 0) (x 0) (x1 - 11)) iwX2_setting wd_374 ⟨rfl, rfl⟩ ⟨Nat.le_of_ble_eq_true rfl, Nat.le_of_ble_eq_true rfl⟩ (stb_h (fun H => PW G (stW G (sA a 0) (x 0)) H)) hKN (hd_st0 (x := x) hP) (va_recv hKN.k (hd_st0 (x := x) hP) (ci := 2) (q0 := 0) rfl rfl) rfl hl.1 rfl (Nat.le_of_ble_eq_true rfl) dX5_counted_180 ⟨Nat.zero_le _, Nat.zero_le _⟩) ?_
                                    have e_17 : fX5_counted x x1 = fX2_setting (x 0) (x1 - 11) := by delta fX5_counted; exact Eq.trans (if_neg k9_0) (Eq.trans (if_neg k9_1) (Eq.trans (if_neg k9_2) (Eq.trans (if_neg k9_3) (Eq.trans (if_neg k9_4) (Eq.trans (if_neg k9_5) (Eq.trans (if_neg k9_6) (Eq.trans (if_neg k9_7) (Eq.trans (if_neg k9_8) (Eq.trans (if_neg k9_9) (Eq.trans (if_neg k9_10) (Eq.trans (if_neg k9_11) (Eq.trans (if_neg k9_12) (Eq.trans (if_neg k9_13) (Eq.trans (if_neg k9_14) (Eq.trans (if_neg k9_15) (Eq.trans (if_pos k9_16) rfl))))))))))))))))
                                    have hg : fX5_counted x x1 = fX2_setting (x 0) (x1 - 11) := by have e2 := congrArg (fun z => z) e_17; exact hg.trans e2
                                    exact eP_i hC (congrArg Value.int hg) dX5_counted_183
                                  · skip
                                    by_cases k9_17 : x1 = 17
                                    · refine swIn hC (tgt := 172) 17 k9_17 dX5_counted_9 (by decide) (by decide) rfl (by decide) ?_
                                      refine lv_aload_n hC.1 hC.2.1 dX5_counted_172 rfl (lv_at hl 1 rfl) ?_
                                      refine gf (v := .ref (a 5)) hC fwX5 hKN hP 0 rfl rfl 0 (by decide) rfl wd_189 rfl dX5_counted_173 ?_
                                      refine lv_iload_n hC.1 hC.2.1 dX5_counted_176 rfl (lv_at hl 2 rfl) ?_
                                      refine lv_bipush (v := 11) hC.1 hC.2.1 dX5_counted_177 (by decide +kernel) ?_
                                      refine lv_isub hC.1 hC.2.1 dX5_counted_179 ?_
                                      refine runP (rV (B := fun U H => PW G (stW G (sA a 0) (x 0)) H) (As := [.int (x1 - 11)]) (rest := []) hC mwX2_setting (c_X2_setting l G (sA a 0) (x 0) (x1 - 11)) iwX2_setting wd_374 ⟨rfl, rfl⟩ ⟨Nat.le_of_ble_eq_true rfl, Nat.le_of_ble_eq_true rfl⟩ (stb_h (fun H => PW G (stW G (sA a 0) (x 0)) H)) hKN (hd_st0 (x := x) hP) (va_recv hKN.k (hd_st0 (x := x) hP) (ci := 2) (q0 := 0) rfl rfl) rfl hl.1 rfl (Nat.le_of_ble_eq_true rfl) dX5_counted_180 ⟨Nat.zero_le _, Nat.zero_le _⟩) ?_
                                      have e_18 : fX5_counted x x1 = fX2_setting (x 0) (x1 - 11) := by delta fX5_counted; exact Eq.trans (if_neg k9_0) (Eq.trans (if_neg k9_1) (Eq.trans (if_neg k9_2) (Eq.trans (if_neg k9_3) (Eq.trans (if_neg k9_4) (Eq.trans (if_neg k9_5) (Eq.trans (if_neg k9_6) (Eq.trans (if_neg k9_7) (Eq.trans (if_neg k9_8) (Eq.trans (if_neg k9_9) (Eq.trans (if_neg k9_10) (Eq.trans (if_neg k9_11) (Eq.trans (if_neg k9_12) (Eq.trans (if_neg k9_13) (Eq.trans (if_neg k9_14) (Eq.trans (if_neg k9_15) (Eq.trans (if_neg k9_16) (Eq.trans (if_pos k9_17) rfl)))))))))))))))))
                                      have hg : fX5_counted x x1 = fX2_setting (x 0) (x1 - 11) := by have e2 := congrArg (fun z => z) e_18; exact hg.trans e2
                                      exact eP_i hC (congrArg Value.int hg) dX5_counted_183
                                    · skip
                                      by_cases k9_18 : x1 = 18
                                      · refine swIn hC (tgt := 167) 18 k9_18 dX5_counted_9 (by decide) (by decide) rfl (by decide) ?_
                                        refine lv_aload_n hC.1 hC.2.1 dX5_counted_167 rfl (lv_at hl 1 rfl) ?_
                                        refine gf (v := .int (x 9 2 0)) hC fwX5 hKN hP 0 rfl rfl 6 (by decide) rfl wd_195 rfl dX5_counted_168 ?_
                                        have e_19 : fX5_counted x x1 = x 9 2 0 := by delta fX5_counted; exact Eq.trans (if_neg k9_0) (Eq.trans (if_neg k9_1) (Eq.trans (if_neg k9_2) (Eq.trans (if_neg k9_3) (Eq.trans (if_neg k9_4) (Eq.trans (if_neg k9_5) (Eq.trans (if_neg k9_6) (Eq.trans (if_neg k9_7) (Eq.trans (if_neg k9_8) (Eq.trans (if_neg k9_9) (Eq.trans (if_neg k9_10) (Eq.trans (if_neg k9_11) (Eq.trans (if_neg k9_12) (Eq.trans (if_neg k9_13) (Eq.trans (if_neg k9_14) (Eq.trans (if_neg k9_15) (Eq.trans (if_neg k9_16) (Eq.trans (if_neg k9_17) (Eq.trans (if_pos k9_18) rfl))))))))))))))))))
                                        have hg : fX5_counted x x1 = x 9 2 0 := by have e2 := congrArg (fun z => z) e_19; exact hg.trans e2
                                        exact eP_i hC (congrArg Value.int hg) dX5_counted_171
                                      · skip
                                        refine lv_tableOut (tgt := 172) hC.1 hC.2.1 dX5_counted_9 (sw_out 0 18 (by decide) (fun k h1 h2 => by match k, h1, h2 with  | 0, _, _ => exact k9_0 | 1, _, _ => exact k9_1 | 2, _, _ => exact k9_2 | 3, _, _ => exact k9_3 | 4, _, _ => exact k9_4 | 5, _, _ => exact k9_5 | 6, _, _ => exact k9_6 | 7, _, _ => exact k9_7 | 8, _, _ => exact k9_8 | 9, _, _ => exact k9_9 | 10, _, _ => exact k9_10 | 11, _, _ => exact k9_11 | 12, _, _ => exact k9_12 | 13, _, _ => exact k9_13 | 14, _, _ => exact k9_14 | 15, _, _ => exact k9_15 | 16, _, _ => exact k9_16 | 17, _, _ => exact k9_17 | 18, _, _ => exact k9_18 | k + 19, _, h => exact absurd h (by omega))) (by decide) ?_
                                        refine lv_aload_n hC.1 hC.2.1 dX5_counted_172 rfl (lv_at hl 1 rfl) ?_
                                        refine gf (v := .ref (a 5)) hC fwX5 hKN hP 0 rfl rfl 0 (by decide) rfl wd_189 rfl dX5_counted_173 ?_
                                        refine lv_iload_n hC.1 hC.2.1 dX5_counted_176 rfl (lv_at hl 2 rfl) ?_
                                        refine lv_bipush (v := 11) hC.1 hC.2.1 dX5_counted_177 (by decide +kernel) ?_
                                        refine lv_isub hC.1 hC.2.1 dX5_counted_179 ?_
                                        refine runP (rV (B := fun U H => PW G (stW G (sA a 0) (x 0)) H) (As := [.int (x1 - 11)]) (rest := []) hC mwX2_setting (c_X2_setting l G (sA a 0) (x 0) (x1 - 11)) iwX2_setting wd_374 ⟨rfl, rfl⟩ ⟨Nat.le_of_ble_eq_true rfl, Nat.le_of_ble_eq_true rfl⟩ (stb_h (fun H => PW G (stW G (sA a 0) (x 0)) H)) hKN (hd_st0 (x := x) hP) (va_recv hKN.k (hd_st0 (x := x) hP) (ci := 2) (q0 := 0) rfl rfl) rfl hl.1 rfl (Nat.le_of_ble_eq_true rfl) dX5_counted_180 ⟨Nat.zero_le _, Nat.zero_le _⟩) ?_
                                        have e_20 : fX5_counted x x1 = fX2_setting (x 0) (x1 - 11) := by delta fX5_counted; exact Eq.trans (if_neg k9_0) (Eq.trans (if_neg k9_1) (Eq.trans (if_neg k9_2) (Eq.trans (if_neg k9_3) (Eq.trans (if_neg k9_4) (Eq.trans (if_neg k9_5) (Eq.trans (if_neg k9_6) (Eq.trans (if_neg k9_7) (Eq.trans (if_neg k9_8) (Eq.trans (if_neg k9_9) (Eq.trans (if_neg k9_10) (Eq.trans (if_neg k9_11) (Eq.trans (if_neg k9_12) (Eq.trans (if_neg k9_13) (Eq.trans (if_neg k9_14) (Eq.trans (if_neg k9_15) (Eq.trans (if_neg k9_16) (Eq.trans (if_neg k9_17) (Eq.trans (if_neg k9_18) rfl))))))))))))))))))
                                        have hg : fX5_counted x x1 = fX2_setting (x 0) (x1 - 11) := by have e2 := congrArg (fun z => z) e_20; exact hg.trans e2
                                        exact eP_i hC (congrArg Value.int hg) dX5_counted_183

theorem dX5_tryLine_0 : decode cX5_tryLine 0 = .ok (.aload_n 0, 1) := by decide +kernel
theorem dX5_tryLine_1 : decode cX5_tryLine 1 = .ok (.getfield 19, 3) := by decide +kernel
theorem dX5_tryLine_4 : decode cX5_tryLine 4 = .ok (.aload_n 0, 1) := by decide +kernel
theorem dX5_tryLine_5 : decode cX5_tryLine 5 = .ok (.getfield 10, 3) := by decide +kernel
theorem dX5_tryLine_8 : decode cX5_tryLine 8 = .ok (.invokevirtual 185, 3) := by decide +kernel
theorem dX5_tryLine_11 : decode cX5_tryLine 11 = .ok (.aload_n 0, 1) := by decide +kernel
theorem dX5_tryLine_12 : decode cX5_tryLine 12 = .ok (.getfield 19, 3) := by decide +kernel
theorem dX5_tryLine_15 : decode cX5_tryLine 15 = .ok (.iconst 5, 1) := by decide +kernel
theorem dX5_tryLine_16 : decode cX5_tryLine 16 = .ok (.iload_n 2, 1) := by decide +kernel
theorem dX5_tryLine_17 : decode cX5_tryLine 17 = .ok (.invokevirtual 129, 3) := by decide +kernel
theorem dX5_tryLine_20 : decode cX5_tryLine 20 = .ok (.aload_n 0, 1) := by decide +kernel
theorem dX5_tryLine_21 : decode cX5_tryLine 21 = .ok (.getfield 19, 3) := by decide +kernel
theorem dX5_tryLine_24 : decode cX5_tryLine 24 = .ok (.getfield 72, 3) := by decide +kernel
theorem dX5_tryLine_27 : decode cX5_tryLine 27 = .ok (.aload_n 0, 1) := by decide +kernel
theorem dX5_tryLine_28 : decode cX5_tryLine 28 = .ok (.getfield 10, 3) := by decide +kernel
theorem dX5_tryLine_31 : decode cX5_tryLine 31 = .ok (.invokevirtual 91, 3) := by decide +kernel
theorem dX5_tryLine_34 : decode cX5_tryLine 34 = .ok (.putfield 295, 3) := by decide +kernel
theorem dX5_tryLine_37 : decode cX5_tryLine 37 = .ok (.aload_n 0, 1) := by decide +kernel
theorem dX5_tryLine_38 : decode cX5_tryLine 38 = .ok (.getfield 19, 3) := by decide +kernel
theorem dX5_tryLine_41 : decode cX5_tryLine 41 = .ok (.iload_n 1, 1) := by decide +kernel
theorem dX5_tryLine_42 : decode cX5_tryLine 42 = .ok (.invokevirtual 62, 3) := by decide +kernel
theorem dX5_tryLine_45 : decode cX5_tryLine 45 = .ok (.pop, 1) := by decide +kernel
theorem dX5_tryLine_46 : decode cX5_tryLine 46 = .ok (.return_, 1) := by decide +kernel
set_option maxHeartbeats 1000000 in
set_option maxRecDepth 100000 in
theorem c_X5_tryLine (l : Launch) (G : GT) (a : Nat → Nat) (b : Nat → Nat) (x : HV) (x1 : Int32) (x2 : Int32) (hq : hdD G a b) : Met l yX5_tryLine (Cond.code yX5_tryLine cX5_tryLine 3 none :: bigW) ({ frames := 4, cells := 0, slots := 0, locals := 99 }) (BP G [.ref (a 0), .int x1, .int x2] (fun U H => PW G (hdW G a b x) H)) (QE (none) (fun H => PW G (hdW G a b (fX5_tryLine x x1 x2)) H) (hdA a b)) 0 0 (hdA a b) := by
  refine met_of (by decide) (Nat.le_of_ble_eq_true rfl) ?_
  intro p e s m below meth c ls hC hKN hB0 hl
  have hP := hB0
  have hl : lv_has ls 3 [(0, .ref (a 0)), (1, .int x1), (2, .int x2)] := hl
  have hS : va_S (hdA a b) s.heap s.heap [] := va_S.rf
  have hAL : ∀ z, (hdA a b) z → gL G ≤ z := hdD_low hq
  have hg : fX5_tryLine x x1 x2 = fX5_tryLine x x1 x2 := rfl
  refine lv_aload_n hC.1 hC.2.1 dX5_tryLine_0 rfl (lv_at hl 0 rfl) ?_
  refine gf (v := .ref (a 27)) hC fwX5 hKN hP 0 rfl rfl 2 (by decide) rfl wd_191 rfl dX5_tryLine_1 ?_
  refine lv_aload_n hC.1 hC.2.1 dX5_tryLine_4 rfl (lv_at hl 0 rfl) ?_
  refine gf (v := .ref (a 5)) hC fwX5 hKN hP 0 rfl rfl 0 (by decide) rfl wd_189 rfl dX5_tryLine_5 ?_
  refine runE (rV (B := fun U H => PW G (stW G (sA a 2) (x 2)) H ∧ PW G (stW G (sA a 0) (x 0)) H) (As := [.ref (a 5)]) (rest := []) hC mwX2_copyFrom (c_X2_copyFrom l G (sA a 2) (x 2) (sA a 0) (x 0) (hdD_st hq 2 (by decide)) (hdD_N hq 2 0 (by decide) (by decide) (by decide))) iwX2_copyFrom wd_458 ⟨rfl, rfl⟩ ⟨Nat.le_of_ble_eq_true rfl, Nat.le_of_ble_eq_true rfl⟩ (stb_and (stb_h (fun H => PW G (stW G (sA a 2) (x 2)) H)) (stb_h (fun H => PW G (stW G (sA a 0) (x 0)) H))) hKN ⟨(hd_st2 (x := x) hP), (hd_st0 (x := x) hP)⟩ (va_recv hKN.k (hd_st2 (x := x) hP) (ci := 2) (q0 := 0) rfl rfl) rfl hl.1 rfl (Nat.le_of_ble_eq_true rfl) dX5_tryLine_8 ⟨Nat.zero_le _, Nat.zero_le _⟩) hS (fun _ h => hdA_st (by decide) h) (fun _ h => hdA_st (by decide) h) (fun H locs hq_1 _ hk_3 hS => ?_)
  have hP : PW G (hdW G a b (mkH (x 0) (x 1) (fX2_copyFrom (x 2) (x 0)) (x 3) (x 4) (x 5) (x 6) (x 7) (x 8) (x 9 0) (x 9 1) (x 9 2 0) (x 9 2 1) (x 9 2 2))) H := hd_set2 (x := x) hq hP hq_1 hk_3
  obtain ⟨r_2, er_2⟩ : ∃ z, z = fX2_copyFrom (x 2) (x 0) := ⟨_, rfl⟩
  rw [← er_2] at hP
  refine lv_aload_n hC.1 hC.2.1 dX5_tryLine_11 rfl (lv_at hl 0 rfl) ?_
  refine gf (v := .ref (a 27)) hC fwX5 (hKN.go hAL hS) hP 0 rfl rfl 2 (by decide) rfl wd_191 rfl dX5_tryLine_12 ?_
  refine lv_iconst (v := 5) hC.1 hC.2.1 dX5_tryLine_15 (by decide) ?_
  refine lv_iload_n hC.1 hC.2.1 dX5_tryLine_16 rfl (lv_at hl 2 rfl) ?_
  refine runE (rV (B := fun U H => PW G (stW G (sA a 2) r_2) H) (As := [.int 5, .int x2]) (rest := []) hC mwX2_changeSetting (c_X2_changeSetting l G (sA a 2) r_2 5 x2 (hdD_st hq 2 (by decide))) iwX2_changeSetting wd_472 ⟨rfl, rfl⟩ ⟨Nat.le_of_ble_eq_true rfl, Nat.le_of_ble_eq_true rfl⟩ (stb_h (fun H => PW G (stW G (sA a 2) r_2) H)) (hKN.go hAL hS) (hd_st2 (x := mkH (x 0) (x 1) r_2 (x 3) (x 4) (x 5) (x 6) (x 7) (x 8) (x 9 0) (x 9 1) (x 9 2 0) (x 9 2 1) (x 9 2 2)) hP) (va_recv (hKN.go hAL hS).k (hd_st2 (x := mkH (x 0) (x 1) r_2 (x 3) (x 4) (x 5) (x 6) (x 7) (x 8) (x 9 0) (x 9 1) (x 9 2 0) (x 9 2 1) (x 9 2 2)) hP) (ci := 2) (q0 := 0) rfl rfl) rfl hl.1 rfl (Nat.le_of_ble_eq_true rfl) dX5_tryLine_17 ⟨Nat.zero_le _, Nat.zero_le _⟩) hS (fun _ h => hdA_st (by decide) h) (fun _ h => hdA_st (by decide) h) (fun H locs hq_4 _ hk_6 hS => ?_)
  have hP : PW G (hdW G a b (mkH (x 0) (x 1) (fX2_changeSetting r_2 5 x2) (x 3) (x 4) (x 5) (x 6) (x 7) (x 8) (x 9 0) (x 9 1) (x 9 2 0) (x 9 2 1) (x 9 2 2))) H := hd_set2 (x := mkH (x 0) (x 1) r_2 (x 3) (x 4) (x 5) (x 6) (x 7) (x 8) (x 9 0) (x 9 1) (x 9 2 0) (x 9 2 1) (x 9 2 2)) hq hP hq_4 hk_6
  obtain ⟨r_5, er_5⟩ : ∃ z, z = fX2_changeSetting r_2 5 x2 := ⟨_, rfl⟩
  rw [← er_5] at hP
  refine lv_aload_n hC.1 hC.2.1 dX5_tryLine_20 rfl (lv_at hl 0 rfl) ?_
  refine gf (v := .ref (a 27)) hC fwX5 (hKN.go hAL hS) hP 0 rfl rfl 2 (by decide) rfl wd_191 rfl dX5_tryLine_21 ?_
  refine gfN (v := .ref (sA a 2 8)) hC fwX2 (hKN.go hAL hS) hP 27 rfl rfl 4 (by decide) rfl (nf_16 (hKN.go hAL hS)) rfl dX5_tryLine_24 ?_
  refine lv_aload_n hC.1 hC.2.1 dX5_tryLine_27 rfl (lv_at hl 0 rfl) ?_
  refine gf (v := .ref (a 5)) hC fwX5 (hKN.go hAL hS) hP 0 rfl rfl 0 (by decide) rfl wd_189 rfl dX5_tryLine_28 ?_
  refine runP (rV (B := fun U H => PW G (stW G (sA a 0) (x 0)) H) (As := []) (rest := [.ref (sA a 2 8)]) hC mwX2_hottestDot (c_X2_hottestDot l G (sA a 0) (x 0)) iwX2_hottestDot wd_370 ⟨rfl, rfl⟩ ⟨Nat.le_of_ble_eq_true rfl, Nat.le_of_ble_eq_true rfl⟩ (stb_h (fun H => PW G (stW G (sA a 0) (x 0)) H)) (hKN.go hAL hS) (hd_st0 (x := mkH (x 0) (x 1) r_5 (x 3) (x 4) (x 5) (x 6) (x 7) (x 8) (x 9 0) (x 9 1) (x 9 2 0) (x 9 2 1) (x 9 2 2)) hP) (va_recv (hKN.go hAL hS).k (hd_st0 (x := mkH (x 0) (x 1) r_5 (x 3) (x 4) (x 5) (x 6) (x 7) (x 8) (x 9 0) (x 9 1) (x 9 2 0) (x 9 2 1) (x 9 2 2)) hP) (ci := 2) (q0 := 0) rfl rfl) rfl hl.1 rfl (Nat.le_of_ble_eq_true rfl) dX5_tryLine_31 ⟨Nat.zero_le _, Nat.zero_le _⟩) ?_
  refine lv_topi (fun w_7 ew_7 => ?_)
  refine pf2N (x := mkH (x 0) (x 1) r_5 (x 3) (x 4) (x 5) (x 6) (x 7) (x 8) (x 9 0) (x 9 1) (x 9 2 0) (x 9 2 1) (x 9 2 2)) (v := .int w_7) (tv := .int) (v' := mkS (r_5 0) (r_5 1) (r_5 2) (r_5 3) (r_5 4) (r_5 5) (r_5 6) (r_5 7) (r_5 8 0) (r_5 8 1) (r_5 8 2) (r_5 8 3) (r_5 8 4) (r_5 8 5) (r_5 8 6) w_7 (r_5 8 8) (r_5 8 9) (r_5 8 10)) hC fwX4 (hKN.go hAL hS) hP hq (fun _ h => h) hS 8 (by decide) rfl rfl 8 (by decide) rfl (nf_14 (hKN.go hAL hS)) rfl rfl rfl (Nat.le_of_ble_eq_true rfl) rfl dX5_tryLine_34 (fun H locs hP hS => ?_)
  refine lv_aload_n hC.1 hC.2.1 dX5_tryLine_37 rfl (lv_at hl 0 rfl) ?_
  refine gf (v := .ref (a 27)) hC fwX5 (hKN.go hAL hS) hP 0 rfl rfl 2 (by decide) rfl wd_191 rfl dX5_tryLine_38 ?_
  refine lv_iload_n hC.1 hC.2.1 dX5_tryLine_41 rfl (lv_at hl 1 rfl) ?_
  refine runE (rV (B := fun U H => PW G (stW G (sA a 2) (mkS (r_5 0) (r_5 1) (r_5 2) (r_5 3) (r_5 4) (r_5 5) (r_5 6) (r_5 7) (r_5 8 0) (r_5 8 1) (r_5 8 2) (r_5 8 3) (r_5 8 4) (r_5 8 5) (r_5 8 6) w_7 (r_5 8 8) (r_5 8 9) (r_5 8 10))) H) (As := [.int x1]) (rest := []) hC mwX2_printLine (c_X2_printLine l G (sA a 2) (mkS (r_5 0) (r_5 1) (r_5 2) (r_5 3) (r_5 4) (r_5 5) (r_5 6) (r_5 7) (r_5 8 0) (r_5 8 1) (r_5 8 2) (r_5 8 3) (r_5 8 4) (r_5 8 5) (r_5 8 6) w_7 (r_5 8 8) (r_5 8 9) (r_5 8 10)) x1 (hdD_st hq 2 (by decide))) iwX2_printLine wd_479 ⟨rfl, rfl⟩ ⟨Nat.le_of_ble_eq_true rfl, Nat.le_of_ble_eq_true rfl⟩ (stb_h (fun H => PW G (stW G (sA a 2) (mkS (r_5 0) (r_5 1) (r_5 2) (r_5 3) (r_5 4) (r_5 5) (r_5 6) (r_5 7) (r_5 8 0) (r_5 8 1) (r_5 8 2) (r_5 8 3) (r_5 8 4) (r_5 8 5) (r_5 8 6) w_7 (r_5 8 8) (r_5 8 9) (r_5 8 10))) H)) (hKN.go hAL hS) (hd_st2 (x := mkH (x 0) (x 1) (mkS (r_5 0) (r_5 1) (r_5 2) (r_5 3) (r_5 4) (r_5 5) (r_5 6) (r_5 7) (r_5 8 0) (r_5 8 1) (r_5 8 2) (r_5 8 3) (r_5 8 4) (r_5 8 5) (r_5 8 6) w_7 (r_5 8 8) (r_5 8 9) (r_5 8 10)) (x 3) (x 4) (x 5) (x 6) (x 7) (x 8) (x 9 0) (x 9 1) (x 9 2 0) (x 9 2 1) (x 9 2 2)) hP) (va_recv (hKN.go hAL hS).k (hd_st2 (x := mkH (x 0) (x 1) (mkS (r_5 0) (r_5 1) (r_5 2) (r_5 3) (r_5 4) (r_5 5) (r_5 6) (r_5 7) (r_5 8 0) (r_5 8 1) (r_5 8 2) (r_5 8 3) (r_5 8 4) (r_5 8 5) (r_5 8 6) w_7 (r_5 8 8) (r_5 8 9) (r_5 8 10)) (x 3) (x 4) (x 5) (x 6) (x 7) (x 8) (x 9 0) (x 9 1) (x 9 2 0) (x 9 2 1) (x 9 2 2)) hP) (ci := 2) (q0 := 0) rfl rfl) rfl hl.1 rfl (Nat.le_of_ble_eq_true rfl) dX5_tryLine_42 ⟨Nat.zero_le _, Nat.zero_le _⟩) hS (fun _ h => hdA_st (by decide) h) (fun _ h => hdA_st (by decide) h) (fun H locs hq_9 _ hk_11 hS => ?_)
  have hP : PW G (hdW G a b (mkH (x 0) (x 1) ((fX2_printLine (mkS (r_5 0) (r_5 1) (r_5 2) (r_5 3) (r_5 4) (r_5 5) (r_5 6) (r_5 7) (r_5 8 0) (r_5 8 1) (r_5 8 2) (r_5 8 3) (r_5 8 4) (r_5 8 5) (r_5 8 6) w_7 (r_5 8 8) (r_5 8 9) (r_5 8 10)) x1).1) (x 3) (x 4) (x 5) (x 6) (x 7) (x 8) (x 9 0) (x 9 1) (x 9 2 0) (x 9 2 1) (x 9 2 2))) H := hd_set2 (x := mkH (x 0) (x 1) (mkS (r_5 0) (r_5 1) (r_5 2) (r_5 3) (r_5 4) (r_5 5) (r_5 6) (r_5 7) (r_5 8 0) (r_5 8 1) (r_5 8 2) (r_5 8 3) (r_5 8 4) (r_5 8 5) (r_5 8 6) w_7 (r_5 8 8) (r_5 8 9) (r_5 8 10)) (x 3) (x 4) (x 5) (x 6) (x 7) (x 8) (x 9 0) (x 9 1) (x 9 2 0) (x 9 2 1) (x 9 2 2)) hq hP hq_9 hk_11
  obtain ⟨r_10, er_10⟩ : ∃ z, z = fX2_printLine (mkS (r_5 0) (r_5 1) (r_5 2) (r_5 3) (r_5 4) (r_5 5) (r_5 6) (r_5 7) (r_5 8 0) (r_5 8 1) (r_5 8 2) (r_5 8 3) (r_5 8 4) (r_5 8 5) (r_5 8 6) w_7 (r_5 8 8) (r_5 8 9) (r_5 8 10)) x1 := ⟨_, rfl⟩
  rw [← er_10] at hP
  show W p l e ({ frames := 4, cells := 0, slots := 0, locals := 99 }) s m ([.ref (a 0), .int x1, .int x2] : List Value).toArray below meth c H locs (0 + 0) (0 + 0) _ (F0 m (42 + 3) ls [.int ((fX2_printLine (mkS (r_5 0) (r_5 1) (r_5 2) (r_5 3) (r_5 4) (r_5 5) (r_5 6) (r_5 7) (r_5 8 0) (r_5 8 1) (r_5 8 2) (r_5 8 3) (r_5 8 4) (r_5 8 5) (r_5 8 6) w_7 (r_5 8 8) (r_5 8 9) (r_5 8 10)) x1).2)])
  rw [← er_10]
  refine lv_pop hC.1 hC.2.1 dX5_tryLine_45 rfl ?_
  have e_12 : fX5_tryLine x x1 x2 = mkH (x 0) (x 1) r_10.1 (x 3) (x 4) (x 5) (x 6) (x 7) (x 8) (x 9 0) (x 9 1) (x 9 2 0) (x 9 2 1) (x 9 2 2)  := by
    have q_ := ew_7.symm; subst q_; delta fX5_tryLine
    try dsimp only
    rw [← er_2]
    rw [← er_5]
    rw [← er_10]
  have hg : fX5_tryLine x x1 x2 = mkH (x 0) (x 1) r_10.1 (x 3) (x 4) (x 5) (x 6) (x 7) (x 8) (x 9 0) (x 9 1) (x 9 2 0) (x 9 2 1) (x 9 2 2)  := by have e2 := congrArg (fun z => z) e_12; exact hg.trans e2
  exact eE_v hC (by show PW G (hdW G a b (fX5_tryLine x x1 x2)) H; rw [hg]; exact hP) hS dX5_tryLine_46

theorem dX5_tried_0 : decode cX5_tried 0 = .ok (.aload_n 0, 1) := by decide +kernel
theorem dX5_tried_1 : decode cX5_tried 1 = .ok (.getfield 19, 3) := by decide +kernel
theorem dX5_tried_4 : decode cX5_tried 4 = .ok (.getfield 72, 3) := by decide +kernel
theorem dX5_tried_7 : decode cX5_tried 7 = .ok (.astore_n 2, 1) := by decide +kernel
theorem dX5_tried_8 : decode cX5_tried 8 = .ok (.iload_n 1, 1) := by decide +kernel
theorem dX5_tried_9 : decode cX5_tried 9 = .ok (.tableswitch 95 0 3 #[31, 47, 63, 79], 31) := by decide +kernel
theorem dX5_tried_40 : decode cX5_tried 40 = .ok (.aload_n 2, 1) := by decide +kernel
theorem dX5_tried_41 : decode cX5_tried 41 = .ok (.getfield 283, 3) := by decide +kernel
theorem dX5_tried_44 : decode cX5_tried 44 = .ok (.aload_n 0, 1) := by decide +kernel
theorem dX5_tried_45 : decode cX5_tried 45 = .ok (.getfield 10, 3) := by decide +kernel
theorem dX5_tried_48 : decode cX5_tried 48 = .ok (.getfield 72, 3) := by decide +kernel
theorem dX5_tried_51 : decode cX5_tried 51 = .ok (.getfield 283, 3) := by decide +kernel
theorem dX5_tried_54 : decode cX5_tried 54 = .ok (.isub, 1) := by decide +kernel
theorem dX5_tried_55 : decode cX5_tried 55 = .ok (.ireturn, 1) := by decide +kernel
theorem dX5_tried_56 : decode cX5_tried 56 = .ok (.aload_n 2, 1) := by decide +kernel
theorem dX5_tried_57 : decode cX5_tried 57 = .ok (.getfield 288, 3) := by decide +kernel
theorem dX5_tried_60 : decode cX5_tried 60 = .ok (.aload_n 0, 1) := by decide +kernel
theorem dX5_tried_61 : decode cX5_tried 61 = .ok (.getfield 10, 3) := by decide +kernel
theorem dX5_tried_64 : decode cX5_tried 64 = .ok (.getfield 72, 3) := by decide +kernel
theorem dX5_tried_67 : decode cX5_tried 67 = .ok (.getfield 288, 3) := by decide +kernel
theorem dX5_tried_70 : decode cX5_tried 70 = .ok (.isub, 1) := by decide +kernel
theorem dX5_tried_71 : decode cX5_tried 71 = .ok (.ireturn, 1) := by decide +kernel
theorem dX5_tried_72 : decode cX5_tried 72 = .ok (.aload_n 2, 1) := by decide +kernel
theorem dX5_tried_73 : decode cX5_tried 73 = .ok (.getfield 285, 3) := by decide +kernel
theorem dX5_tried_76 : decode cX5_tried 76 = .ok (.aload_n 0, 1) := by decide +kernel
theorem dX5_tried_77 : decode cX5_tried 77 = .ok (.getfield 10, 3) := by decide +kernel
theorem dX5_tried_80 : decode cX5_tried 80 = .ok (.getfield 72, 3) := by decide +kernel
theorem dX5_tried_83 : decode cX5_tried 83 = .ok (.getfield 285, 3) := by decide +kernel
theorem dX5_tried_86 : decode cX5_tried 86 = .ok (.isub, 1) := by decide +kernel
theorem dX5_tried_87 : decode cX5_tried 87 = .ok (.ireturn, 1) := by decide +kernel
theorem dX5_tried_88 : decode cX5_tried 88 = .ok (.aload_n 2, 1) := by decide +kernel
theorem dX5_tried_89 : decode cX5_tried 89 = .ok (.getfield 76, 3) := by decide +kernel
theorem dX5_tried_92 : decode cX5_tried 92 = .ok (.aload_n 0, 1) := by decide +kernel
theorem dX5_tried_93 : decode cX5_tried 93 = .ok (.getfield 10, 3) := by decide +kernel
theorem dX5_tried_96 : decode cX5_tried 96 = .ok (.getfield 72, 3) := by decide +kernel
theorem dX5_tried_99 : decode cX5_tried 99 = .ok (.getfield 76, 3) := by decide +kernel
theorem dX5_tried_102 : decode cX5_tried 102 = .ok (.isub, 1) := by decide +kernel
theorem dX5_tried_103 : decode cX5_tried 103 = .ok (.ireturn, 1) := by decide +kernel
theorem dX5_tried_104 : decode cX5_tried 104 = .ok (.aload_n 2, 1) := by decide +kernel
theorem dX5_tried_105 : decode cX5_tried 105 = .ok (.getfield 295, 3) := by decide +kernel
theorem dX5_tried_108 : decode cX5_tried 108 = .ok (.ireturn, 1) := by decide +kernel
set_option maxHeartbeats 1000000 in
set_option maxRecDepth 100000 in
theorem c_X5_tried (l : Launch) (G : GT) (a : Nat → Nat) (b : Nat → Nat) (x : HV) (x1 : Int32) : Met l yX5_tried (Cond.code yX5_tried cX5_tried 3 (some .int) :: bigW) ({ frames := 0, cells := 0, slots := 0, locals := 0 }) (BP G [.ref (a 0), .int x1] (fun U H => PW G (hdW G a b x) H)) (QP (.int (fX5_tried x x1))) 0 0 (fun _ => False) := by
  refine met_of (by decide) (Nat.le_of_ble_eq_true rfl) ?_
  intro p e s m below meth c ls hC hKN hB0 hl
  have hP := hB0
  have hl : lv_has ls 3 [(0, .ref (a 0)), (1, .int x1)] := hl
  have hg : fX5_tried x x1 = fX5_tried x x1 := rfl
  refine lv_aload_n hC.1 hC.2.1 dX5_tried_0 rfl (lv_at hl 0 rfl) ?_
  refine gf (v := .ref (a 27)) hC fwX5 hKN hP 0 rfl rfl 2 (by decide) rfl wd_191 rfl dX5_tried_1 ?_
  refine gfN (v := .ref (sA a 2 8)) hC fwX2 hKN hP 27 rfl rfl 4 (by decide) rfl (nf_16 hKN) rfl dX5_tried_4 ?_
  refine lv_astore_n (lv' := [(2, .ref (sA a 2 8)), (0, .ref (a 0)), (1, .int x1)]) hC.1 hC.2.1 dX5_tried_7 rfl hl (by decide) rfl (fun ls hl => ?_)
  refine lv_iload_n hC.1 hC.2.1 dX5_tried_8 rfl (lv_at hl 2 rfl) ?_
  by_cases k9_0 : x1 = 0
  · refine swIn hC (tgt := 40) 0 k9_0 dX5_tried_9 (by decide) (by decide) rfl (by decide) ?_
    refine lv_aload_n hC.1 hC.2.1 dX5_tried_40 rfl (lv_at hl 0 rfl) ?_
    refine gfN (v := .int ((x 2) 8 1)) hC fwX4 hKN hP 35 rfl rfl 2 (by decide) rfl (nf_6 hKN) rfl dX5_tried_41 ?_
    refine lv_aload_n hC.1 hC.2.1 dX5_tried_44 rfl (lv_at hl 1 rfl) ?_
    refine gf (v := .ref (a 5)) hC fwX5 hKN hP 0 rfl rfl 0 (by decide) rfl wd_189 rfl dX5_tried_45 ?_
    refine gfN (v := .ref (sA a 0 8)) hC fwX2 hKN hP 5 rfl rfl 4 (by decide) rfl (nf_16 hKN) rfl dX5_tried_48 ?_
    refine gfN (v := .int ((x 0) 8 1)) hC fwX4 hKN hP 13 rfl rfl 2 (by decide) rfl (nf_6 hKN) rfl dX5_tried_51 ?_
    refine lv_isub hC.1 hC.2.1 dX5_tried_54 ?_
    have e_1 : fX5_tried x x1 = ((x 2) 8 1) - ((x 0) 8 1) := by delta fX5_tried; exact Eq.trans (if_pos k9_0) rfl
    have hg : fX5_tried x x1 = ((x 2) 8 1) - ((x 0) 8 1) := by have e2 := congrArg (fun z => z) e_1; exact hg.trans e2
    exact eP_i hC (congrArg Value.int hg) dX5_tried_55
  · skip
    by_cases k9_1 : x1 = 1
    · refine swIn hC (tgt := 56) 1 k9_1 dX5_tried_9 (by decide) (by decide) rfl (by decide) ?_
      refine lv_aload_n hC.1 hC.2.1 dX5_tried_56 rfl (lv_at hl 0 rfl) ?_
      refine gfN (v := .int ((x 2) 8 4)) hC fwX4 hKN hP 35 rfl rfl 5 (by decide) rfl (nf_10 hKN) rfl dX5_tried_57 ?_
      refine lv_aload_n hC.1 hC.2.1 dX5_tried_60 rfl (lv_at hl 1 rfl) ?_
      refine gf (v := .ref (a 5)) hC fwX5 hKN hP 0 rfl rfl 0 (by decide) rfl wd_189 rfl dX5_tried_61 ?_
      refine gfN (v := .ref (sA a 0 8)) hC fwX2 hKN hP 5 rfl rfl 4 (by decide) rfl (nf_16 hKN) rfl dX5_tried_64 ?_
      refine gfN (v := .int ((x 0) 8 4)) hC fwX4 hKN hP 13 rfl rfl 5 (by decide) rfl (nf_10 hKN) rfl dX5_tried_67 ?_
      refine lv_isub hC.1 hC.2.1 dX5_tried_70 ?_
      have e_2 : fX5_tried x x1 = ((x 2) 8 4) - ((x 0) 8 4) := by delta fX5_tried; exact Eq.trans (if_neg k9_0) (Eq.trans (if_pos k9_1) rfl)
      have hg : fX5_tried x x1 = ((x 2) 8 4) - ((x 0) 8 4) := by have e2 := congrArg (fun z => z) e_2; exact hg.trans e2
      exact eP_i hC (congrArg Value.int hg) dX5_tried_71
    · skip
      by_cases k9_2 : x1 = 2
      · refine swIn hC (tgt := 72) 2 k9_2 dX5_tried_9 (by decide) (by decide) rfl (by decide) ?_
        refine lv_aload_n hC.1 hC.2.1 dX5_tried_72 rfl (lv_at hl 0 rfl) ?_
        refine gfN (v := .int ((x 2) 8 3)) hC fwX4 hKN hP 35 rfl rfl 4 (by decide) rfl (nf_8 hKN) rfl dX5_tried_73 ?_
        refine lv_aload_n hC.1 hC.2.1 dX5_tried_76 rfl (lv_at hl 1 rfl) ?_
        refine gf (v := .ref (a 5)) hC fwX5 hKN hP 0 rfl rfl 0 (by decide) rfl wd_189 rfl dX5_tried_77 ?_
        refine gfN (v := .ref (sA a 0 8)) hC fwX2 hKN hP 5 rfl rfl 4 (by decide) rfl (nf_16 hKN) rfl dX5_tried_80 ?_
        refine gfN (v := .int ((x 0) 8 3)) hC fwX4 hKN hP 13 rfl rfl 4 (by decide) rfl (nf_8 hKN) rfl dX5_tried_83 ?_
        refine lv_isub hC.1 hC.2.1 dX5_tried_86 ?_
        have e_3 : fX5_tried x x1 = ((x 2) 8 3) - ((x 0) 8 3) := by delta fX5_tried; exact Eq.trans (if_neg k9_0) (Eq.trans (if_neg k9_1) (Eq.trans (if_pos k9_2) rfl))
        have hg : fX5_tried x x1 = ((x 2) 8 3) - ((x 0) 8 3) := by have e2 := congrArg (fun z => z) e_3; exact hg.trans e2
        exact eP_i hC (congrArg Value.int hg) dX5_tried_87
      · skip
        by_cases k9_3 : x1 = 3
        · refine swIn hC (tgt := 88) 3 k9_3 dX5_tried_9 (by decide) (by decide) rfl (by decide) ?_
          refine lv_aload_n hC.1 hC.2.1 dX5_tried_88 rfl (lv_at hl 0 rfl) ?_
          refine gfN (v := .int ((x 2) 8 6)) hC fwX4 hKN hP 35 rfl rfl 7 (by decide) rfl (nf_12 hKN) rfl dX5_tried_89 ?_
          refine lv_aload_n hC.1 hC.2.1 dX5_tried_92 rfl (lv_at hl 1 rfl) ?_
          refine gf (v := .ref (a 5)) hC fwX5 hKN hP 0 rfl rfl 0 (by decide) rfl wd_189 rfl dX5_tried_93 ?_
          refine gfN (v := .ref (sA a 0 8)) hC fwX2 hKN hP 5 rfl rfl 4 (by decide) rfl (nf_16 hKN) rfl dX5_tried_96 ?_
          refine gfN (v := .int ((x 0) 8 6)) hC fwX4 hKN hP 13 rfl rfl 7 (by decide) rfl (nf_12 hKN) rfl dX5_tried_99 ?_
          refine lv_isub hC.1 hC.2.1 dX5_tried_102 ?_
          have e_4 : fX5_tried x x1 = ((x 2) 8 6) - ((x 0) 8 6) := by delta fX5_tried; exact Eq.trans (if_neg k9_0) (Eq.trans (if_neg k9_1) (Eq.trans (if_neg k9_2) (Eq.trans (if_pos k9_3) rfl)))
          have hg : fX5_tried x x1 = ((x 2) 8 6) - ((x 0) 8 6) := by have e2 := congrArg (fun z => z) e_4; exact hg.trans e2
          exact eP_i hC (congrArg Value.int hg) dX5_tried_103
        · skip
          refine lv_tableOut (tgt := 104) hC.1 hC.2.1 dX5_tried_9 (sw_out 0 3 (by decide) (fun k h1 h2 => by match k, h1, h2 with  | 0, _, _ => exact k9_0 | 1, _, _ => exact k9_1 | 2, _, _ => exact k9_2 | 3, _, _ => exact k9_3 | k + 4, _, h => exact absurd h (by omega))) (by decide) ?_
          refine lv_aload_n hC.1 hC.2.1 dX5_tried_104 rfl (lv_at hl 0 rfl) ?_
          refine gfN (v := .int ((x 2) 8 7)) hC fwX4 hKN hP 35 rfl rfl 8 (by decide) rfl (nf_14 hKN) rfl dX5_tried_105 ?_
          have e_5 : fX5_tried x x1 = (x 2) 8 7 := by delta fX5_tried; exact Eq.trans (if_neg k9_0) (Eq.trans (if_neg k9_1) (Eq.trans (if_neg k9_2) (Eq.trans (if_neg k9_3) rfl)))
          have hg : fX5_tried x x1 = (x 2) 8 7 := by have e2 := congrArg (fun z => z) e_5; exact hg.trans e2
          exact eP_i hC (congrArg Value.int hg) dX5_tried_108

theorem dX5_fasterWay_0 : decode cX5_fasterWay 0 = .ok (.aload_n 0, 1) := by decide +kernel
theorem dX5_fasterWay_1 : decode cX5_fasterWay 1 = .ok (.iload_n 1, 1) := by decide +kernel
theorem dX5_fasterWay_2 : decode cX5_fasterWay 2 = .ok (.iconst 0, 1) := by decide +kernel
theorem dX5_fasterWay_3 : decode cX5_fasterWay 3 = .ok (.invokevirtual 211, 3) := by decide +kernel
theorem dX5_fasterWay_6 : decode cX5_fasterWay 6 = .ok (.aload_n 0, 1) := by decide +kernel
theorem dX5_fasterWay_7 : decode cX5_fasterWay 7 = .ok (.iconst 0, 1) := by decide +kernel
theorem dX5_fasterWay_8 : decode cX5_fasterWay 8 = .ok (.invokevirtual 214, 3) := by decide +kernel
theorem dX5_fasterWay_11 : decode cX5_fasterWay 11 = .ok (.istore_n 2, 1) := by decide +kernel
theorem dX5_fasterWay_12 : decode cX5_fasterWay 12 = .ok (.aload_n 0, 1) := by decide +kernel
theorem dX5_fasterWay_13 : decode cX5_fasterWay 13 = .ok (.iload_n 1, 1) := by decide +kernel
theorem dX5_fasterWay_14 : decode cX5_fasterWay 14 = .ok (.iconst 1, 1) := by decide +kernel
theorem dX5_fasterWay_15 : decode cX5_fasterWay 15 = .ok (.invokevirtual 211, 3) := by decide +kernel
theorem dX5_fasterWay_18 : decode cX5_fasterWay 18 = .ok (.aload_n 0, 1) := by decide +kernel
theorem dX5_fasterWay_19 : decode cX5_fasterWay 19 = .ok (.iconst 0, 1) := by decide +kernel
theorem dX5_fasterWay_20 : decode cX5_fasterWay 20 = .ok (.invokevirtual 214, 3) := by decide +kernel
theorem dX5_fasterWay_23 : decode cX5_fasterWay 23 = .ok (.iload_n 2, 1) := by decide +kernel
theorem dX5_fasterWay_24 : decode cX5_fasterWay 24 = .ok (.if_icmp .ge 7, 3) := by decide +kernel
theorem dX5_fasterWay_27 : decode cX5_fasterWay 27 = .ok (.iconst 1, 1) := by decide +kernel
theorem dX5_fasterWay_28 : decode cX5_fasterWay 28 = .ok (.goto 4, 3) := by decide +kernel
theorem dX5_fasterWay_31 : decode cX5_fasterWay 31 = .ok (.iconst 0, 1) := by decide +kernel
theorem dX5_fasterWay_32 : decode cX5_fasterWay 32 = .ok (.ireturn, 1) := by decide +kernel
set_option maxHeartbeats 1000000 in
set_option maxRecDepth 100000 in
theorem c_X5_fasterWay (l : Launch) (G : GT) (a : Nat → Nat) (b : Nat → Nat) (x : HV) (x1 : Int32) (hq : hdD G a b) : Met l yX5_fasterWay (Cond.code yX5_fasterWay cX5_fasterWay 3 (some .int) :: bigW) ({ frames := 5, cells := 0, slots := 0, locals := 121 }) (BP G [.ref (a 0), .int x1] (fun U H => PW G (hdW G a b x) H)) (QE (some (.int (fX5_fasterWay x x1).2)) (fun H => PW G (hdW G a b (fX5_fasterWay x x1).1) H) (hdA a b)) 0 0 (hdA a b) := by
  refine met_of (by decide) (Nat.le_of_ble_eq_true rfl) ?_
  intro p e s m below meth c ls hC hKN hB0 hl
  have hP := hB0
  have hl : lv_has ls 3 [(0, .ref (a 0)), (1, .int x1)] := hl
  have hS : va_S (hdA a b) s.heap s.heap [] := va_S.rf
  have hAL : ∀ z, (hdA a b) z → gL G ≤ z := hdD_low hq
  have hg : fX5_fasterWay x x1 = fX5_fasterWay x x1 := rfl
  refine lv_aload_n hC.1 hC.2.1 dX5_fasterWay_0 rfl (lv_at hl 0 rfl) ?_
  refine lv_iload_n hC.1 hC.2.1 dX5_fasterWay_1 rfl (lv_at hl 1 rfl) ?_
  refine lv_iconst (v := 0) hC.1 hC.2.1 dX5_fasterWay_2 (by decide) ?_
  refine runE (rV (B := fun U H => PW G (hdW G a b x) H) (As := [.int x1, .int 0]) (rest := []) hC mwX5_tryLine (c_X5_tryLine l G a b x x1 0 hq) iwX5_tryLine wd_454 ⟨rfl, rfl⟩ ⟨Nat.le_of_ble_eq_true rfl, Nat.le_of_ble_eq_true rfl⟩ (stb_h (fun H => PW G (hdW G a b x) H)) hKN hP (va_recv hKN.k hP (ci := 5) (q0 := 0) rfl rfl) rfl hl.1 rfl (Nat.le_of_ble_eq_true rfl) dX5_fasterWay_3 ⟨Nat.zero_le _, Nat.zero_le _⟩) hS (fun _ h => h) (fun _ h => h) (fun H locs hq_1 _ _ hS => ?_)
  have hP : PW G (hdW G a b (fX5_tryLine x x1 0)) H := hq_1
  obtain ⟨r_2, er_2⟩ : ∃ z, z = fX5_tryLine x x1 0 := ⟨_, rfl⟩
  rw [← er_2] at hP
  refine lv_aload_n hC.1 hC.2.1 dX5_fasterWay_6 rfl (lv_at hl 0 rfl) ?_
  refine lv_iconst (v := 0) hC.1 hC.2.1 dX5_fasterWay_7 (by decide) ?_
  refine runP (rV (B := fun U H => PW G (hdW G a b r_2) H) (As := [.int 0]) (rest := []) hC mwX5_tried (c_X5_tried l G a b r_2 0) iwX5_tried wd_545 ⟨rfl, rfl⟩ ⟨Nat.le_of_ble_eq_true rfl, Nat.le_of_ble_eq_true rfl⟩ (stb_h (fun H => PW G (hdW G a b r_2) H)) (hKN.go hAL hS) hP (va_recv (hKN.go hAL hS).k hP (ci := 5) (q0 := 0) rfl rfl) rfl hl.1 rfl (Nat.le_of_ble_eq_true rfl) dX5_fasterWay_8 ⟨Nat.zero_le _, Nat.zero_le _⟩) ?_
  refine lv_istore_n (lv' := [(2, .int (fX5_tried r_2 0)), (0, .ref (a 0)), (1, .int x1)]) hC.1 hC.2.1 dX5_fasterWay_11 rfl hl (by decide) rfl (fun ls hl => ?_)
  refine lv_aload_n hC.1 hC.2.1 dX5_fasterWay_12 rfl (lv_at hl 1 rfl) ?_
  refine lv_iload_n hC.1 hC.2.1 dX5_fasterWay_13 rfl (lv_at hl 2 rfl) ?_
  refine lv_iconst (v := 1) hC.1 hC.2.1 dX5_fasterWay_14 (by decide) ?_
  refine runE (rV (B := fun U H => PW G (hdW G a b r_2) H) (As := [.int x1, .int 1]) (rest := []) hC mwX5_tryLine (c_X5_tryLine l G a b r_2 x1 1 hq) iwX5_tryLine wd_454 ⟨rfl, rfl⟩ ⟨Nat.le_of_ble_eq_true rfl, Nat.le_of_ble_eq_true rfl⟩ (stb_h (fun H => PW G (hdW G a b r_2) H)) (hKN.go hAL hS) hP (va_recv (hKN.go hAL hS).k hP (ci := 5) (q0 := 0) rfl rfl) rfl hl.1 rfl (Nat.le_of_ble_eq_true rfl) dX5_fasterWay_15 ⟨Nat.zero_le _, Nat.zero_le _⟩) hS (fun _ h => h) (fun _ h => h) (fun H locs hq_3 _ _ hS => ?_)
  have hP : PW G (hdW G a b (fX5_tryLine r_2 x1 1)) H := hq_3
  obtain ⟨r_4, er_4⟩ : ∃ z, z = fX5_tryLine r_2 x1 1 := ⟨_, rfl⟩
  rw [← er_4] at hP
  refine lv_aload_n hC.1 hC.2.1 dX5_fasterWay_18 rfl (lv_at hl 1 rfl) ?_
  refine lv_iconst (v := 0) hC.1 hC.2.1 dX5_fasterWay_19 (by decide) ?_
  refine runP (rV (B := fun U H => PW G (hdW G a b r_4) H) (As := [.int 0]) (rest := []) hC mwX5_tried (c_X5_tried l G a b r_4 0) iwX5_tried wd_545 ⟨rfl, rfl⟩ ⟨Nat.le_of_ble_eq_true rfl, Nat.le_of_ble_eq_true rfl⟩ (stb_h (fun H => PW G (hdW G a b r_4) H)) (hKN.go hAL hS) hP (va_recv (hKN.go hAL hS).k hP (ci := 5) (q0 := 0) rfl rfl) rfl hl.1 rfl (Nat.le_of_ble_eq_true rfl) dX5_fasterWay_20 ⟨Nat.zero_le _, Nat.zero_le _⟩) ?_
  refine lv_iload_n hC.1 hC.2.1 dX5_fasterWay_23 rfl (lv_at hl 0 rfl) ?_
  refine lv_icmp_ge (tgt := 31) hC.1 hC.2.1 dX5_fasterWay_24 (by decide) (fun k24 => ?_) (fun k24 => ?_)
  · refine lv_iconst (v := 0) hC.1 hC.2.1 dX5_fasterWay_31 (by decide) ?_
    have e_5 : fX5_fasterWay x x1 = (r_4, 0) := by
      delta fX5_fasterWay
      try dsimp only
      rw [← er_2]
      rw [← er_4]
      exact Eq.trans (if_pos k24) rfl
    have hg : fX5_fasterWay x x1 = (r_4, 0) := by have e2 := congrArg (fun z => z) e_5; exact hg.trans e2
    exact eE_i hC (by rw [hg]) (by show PW G (hdW G a b (fX5_fasterWay x x1).1) H; rw [hg]; exact hP) hS dX5_fasterWay_32
  · refine lv_iconst (v := 1) hC.1 hC.2.1 dX5_fasterWay_27 (by decide) ?_
    refine lv_goto (tgt := 32) hC.1 hC.2.1 dX5_fasterWay_28 (by decide) ?_
    have e_6 : fX5_fasterWay x x1 = (r_4, 1) := by
      delta fX5_fasterWay
      try dsimp only
      rw [← er_2]
      rw [← er_4]
      exact Eq.trans (if_neg k24) rfl
    have hg : fX5_fasterWay x x1 = (r_4, 1) := by have e2 := congrArg (fun z => z) e_6; exact hg.trans e2
    exact eE_i hC (by rw [hg]) (by show PW G (hdW G a b (fX5_fasterWay x x1).1) H; rw [hg]; exact hP) hS dX5_fasterWay_32
