section JStd
variable {E : jE} {I : jI} {P : jP} {d : Nat} {rd op : Nat} {s r : Nat → Int}
def ownS (s : Nat → Int) (a v : Int) : Nat → Int := su (su (su s 5 a) 6 (s 6 + 1)) 4 v
def stmV (s r : Nat → Int) : Int := if s 10 = 1 then 1 else if s 10 = 6 then 1 else if s 10 = 3 then 1 else if s 10 = 5 then 1 else if s 10 = 4 then jb (s 4 = 1) else if s 10 = 125 then jb (rInner s r ≠ -1) else 0
def stmS (s r : Nat → Int) : Nat → Int := if s 10 = 1 then ownS s 0 2 else if s 10 = 6 then ownS s 1 3 else if s 10 = 3 then ownS s 2 6 else if s 10 = 5 then ownS s 3 6 else if s 10 = 4 then (if s 4 = 1 then su s 4 9 else s) else if s 10 = 125 then endBlS s r else s
/-- what a reader's numbers may be -/
def RdOk (s : Nat → Int) : Prop := (0 ≤ s 1 ∧ s 1 ≤ 6) ∧ (-1000 ≤ s 2 ∧ s 2 ≤ 1000) ∧ (0 ≤ s 6 ∧ s 6 ≤ 100000)
theorem lk_off (x : Int) (h1 : x ≠ 1) (h3 : x ≠ 3) (h4 : x ≠ 4) (h5 : x ≠ 5) (h6 : x ≠ 6) (h7 : x ≠ 125) : Op.lookupswitch.offset (#[((1 : Int), (60 : Int)), (3, 74), (4, 90), (5, 82), (6, 67), (125, 110)] : Array (Int × Int)).toList 115 x = 115 := by
  simp [Op.lookupswitch.offset, h1, h3, h4, h5, h6, h7, Ne.symm h1, Ne.symm h3, Ne.symm h4, Ne.symm h5, Ne.symm h6, Ne.symm h7]
theorem c_Rd_startStatement (h : RdL E P rd op) (hs : RdOk s) (hd : 2 ≤ d) : jC E yX3_startStatement cX3_startStatement 1 (some .boolean) d [jp rd] (rdM I rd op s r) P (jD (some (ji (stmV s r))) (rdM I rd op (stmS s r) r) P) := by
  have h0 := h.1
  obtain ⟨hs1, hs2, hs6⟩ := hs
  refine jC_intro (by decide +kernel) (by simp [jc, va_rf, Value.category]) (Nat.le_of_ble_eq_true rfl) ?_
  refine jJ_aload_n (pc := 0) dX3_startStatement_0 rfl ?_
  refine jJ_geti (pc := 1) dX3_startStatement_1 fX3_45 rfl (by assumption) ?_
  try simp only [rdM_g1, rdM_g2, rdM_g3, rdM_g4, rdM_g5, rdM_g6, rdM_g7, rdM_g8, rdM_g9, rdM_g10, rdM_p1, rdM_p2, rdM_p3, rdM_p4, rdM_p5, rdM_p6, rdM_p7, rdM_p8, rdM_p9, rdM_p10, rdM_r, rdM_w, su_s, su_1_2, su_1_3, su_1_4, su_1_5, su_1_6, su_1_7, su_1_8, su_1_9, su_1_10, su_2_1, su_2_3, su_2_4, su_2_5, su_2_6, su_2_7, su_2_8, su_2_9, su_2_10, su_3_1, su_3_2, su_3_4, su_3_5, su_3_6, su_3_7, su_3_8, su_3_9, su_3_10, su_4_1, su_4_2, su_4_3, su_4_5, su_4_6, su_4_7, su_4_8, su_4_9, su_4_10, su_5_1, su_5_2, su_5_3, su_5_4, su_5_6, su_5_7, su_5_8, su_5_9, su_5_10, su_6_1, su_6_2, su_6_3, su_6_4, su_6_5, su_6_7, su_6_8, su_6_9, su_6_10, su_7_1, su_7_2, su_7_3, su_7_4, su_7_5, su_7_6, su_7_8, su_7_9, su_7_10, su_8_1, su_8_2, su_8_3, su_8_4, su_8_5, su_8_6, su_8_7, su_8_9, su_8_10, su_9_1, su_9_2, su_9_3, su_9_4, su_9_5, su_9_6, su_9_7, su_9_8, su_9_10, su_10_1, su_10_2, su_10_3, su_10_4, su_10_5, su_10_6, su_10_7, su_10_8, su_10_9]
  by_cases h1 : s 10 = 1
  · rw [h1]
    refine jJ_lookup (pc := 4) (tgt := 64) dX3_startStatement_4 (by decide) (off := 60) (by decide) (by decide) ?_
    refine jJ_aload_n (pc := 64) dX3_startStatement_64 rfl ?_
    refine jJ_iconst (pc := 65) dX3_startStatement_65 (by decide) ?_
    refine jJ_iconst (pc := 66) dX3_startStatement_66 (by decide) ?_
    refine jJ_callVd (pc := 67) (as := [_, _]) dX3_startStatement_67 mX3_142 (jRcv_of (by assumption) rfl rfl) (Nat.le_of_ble_eq_true rfl) (jRm_ok (by omega) (by decide)) (c_Rd_own (d := d - 1) h hs6) ?_
    refine jJ_zret (pc := 70) dX3_startStatement_70 rfl (by decide) ?_
    exact ⟨by simp [stmV, h1], by simp [stmS, h1, ownS], rfl⟩
  by_cases h3 : s 10 = 3
  · rw [h3]
    refine jJ_lookup (pc := 4) (tgt := 78) dX3_startStatement_4 (by decide) (off := 74) (by decide) (by decide) ?_
    refine jJ_aload_n (pc := 78) dX3_startStatement_78 rfl ?_
    refine jJ_iconst (pc := 79) dX3_startStatement_79 (by decide) ?_
    refine jJ_bipush (pc := 80) dX3_startStatement_80 (by decide) ?_
    refine jJ_callVd (pc := 82) (as := [_, _]) dX3_startStatement_82 mX3_142 (jRcv_of (by assumption) rfl rfl) (Nat.le_of_ble_eq_true rfl) (jRm_ok (by omega) (by decide)) (c_Rd_own (d := d - 1) h hs6) ?_
    refine jJ_zret (pc := 85) dX3_startStatement_85 rfl (by decide) ?_
    exact ⟨by simp [stmV, h3], by simp [stmS, h3, ownS], rfl⟩
  by_cases h4 : s 10 = 4
  · rw [h4]
    refine jJ_lookup (pc := 4) (tgt := 94) dX3_startStatement_4 (by decide) (off := 90) (by decide) (by decide) ?_
    refine jJ_aload_n (pc := 94) dX3_startStatement_94 rfl ?_
    refine jJ_aload_n (pc := 95) dX3_startStatement_95 rfl ?_
    refine jJ_geti (pc := 96) dX3_startStatement_96 fX3_29 rfl (by assumption) ?_
    try simp only [rdM_g1, rdM_g2, rdM_g3, rdM_g4, rdM_g5, rdM_g6, rdM_g7, rdM_g8, rdM_g9, rdM_g10, rdM_p1, rdM_p2, rdM_p3, rdM_p4, rdM_p5, rdM_p6, rdM_p7, rdM_p8, rdM_p9, rdM_p10, rdM_r, rdM_w, su_s, su_1_2, su_1_3, su_1_4, su_1_5, su_1_6, su_1_7, su_1_8, su_1_9, su_1_10, su_2_1, su_2_3, su_2_4, su_2_5, su_2_6, su_2_7, su_2_8, su_2_9, su_2_10, su_3_1, su_3_2, su_3_4, su_3_5, su_3_6, su_3_7, su_3_8, su_3_9, su_3_10, su_4_1, su_4_2, su_4_3, su_4_5, su_4_6, su_4_7, su_4_8, su_4_9, su_4_10, su_5_1, su_5_2, su_5_3, su_5_4, su_5_6, su_5_7, su_5_8, su_5_9, su_5_10, su_6_1, su_6_2, su_6_3, su_6_4, su_6_5, su_6_7, su_6_8, su_6_9, su_6_10, su_7_1, su_7_2, su_7_3, su_7_4, su_7_5, su_7_6, su_7_8, su_7_9, su_7_10, su_8_1, su_8_2, su_8_3, su_8_4, su_8_5, su_8_6, su_8_7, su_8_9, su_8_10, su_9_1, su_9_2, su_9_3, su_9_4, su_9_5, su_9_6, su_9_7, su_9_8, su_9_10, su_10_1, su_10_2, su_10_3, su_10_4, su_10_5, su_10_6, su_10_7, su_10_8, su_10_9]
    refine jJ_iconst (pc := 99) dX3_startStatement_99 (by decide) ?_
    refine jJ_icmp_ne (pc := 100) (tgt := 107) dX3_startStatement_100 (by decide) (fun c100 => ?_) (fun c100 => ?_)
    · refine jJ_iconst (pc := 107) dX3_startStatement_107 (by decide) ?_
      refine jJ_bipush (pc := 108) dX3_startStatement_108 (by decide) ?_
      refine jJ_callVd (pc := 110) (as := [_, _]) dX3_startStatement_110 mX3_120 (jRcv_of (by assumption) rfl rfl) (Nat.le_of_ble_eq_true rfl) (jRm_ok (by omega) (by decide)) (c_Rd_expect (d := d - 1) h (by decide)) ?_
      try simp only [rdM_g1, rdM_g2, rdM_g3, rdM_g4, rdM_g5, rdM_g6, rdM_g7, rdM_g8, rdM_g9, rdM_g10, rdM_p1, rdM_p2, rdM_p3, rdM_p4, rdM_p5, rdM_p6, rdM_p7, rdM_p8, rdM_p9, rdM_p10, rdM_r, rdM_w, su_s, su_1_2, su_1_3, su_1_4, su_1_5, su_1_6, su_1_7, su_1_8, su_1_9, su_1_10, su_2_1, su_2_3, su_2_4, su_2_5, su_2_6, su_2_7, su_2_8, su_2_9, su_2_10, su_3_1, su_3_2, su_3_4, su_3_5, su_3_6, su_3_7, su_3_8, su_3_9, su_3_10, su_4_1, su_4_2, su_4_3, su_4_5, su_4_6, su_4_7, su_4_8, su_4_9, su_4_10, su_5_1, su_5_2, su_5_3, su_5_4, su_5_6, su_5_7, su_5_8, su_5_9, su_5_10, su_6_1, su_6_2, su_6_3, su_6_4, su_6_5, su_6_7, su_6_8, su_6_9, su_6_10, su_7_1, su_7_2, su_7_3, su_7_4, su_7_5, su_7_6, su_7_8, su_7_9, su_7_10, su_8_1, su_8_2, su_8_3, su_8_4, su_8_5, su_8_6, su_8_7, su_8_9, su_8_10, su_9_1, su_9_2, su_9_3, su_9_4, su_9_5, su_9_6, su_9_7, su_9_8, su_9_10, su_10_1, su_10_2, su_10_3, su_10_4, su_10_5, su_10_6, su_10_7, su_10_8, su_10_9]
      refine jJ_zret (pc := 113) dX3_startStatement_113 rfl (by decide) ?_
      exact ⟨by simp [stmV, h4, jb, *], by simp [stmS, h4, *], rfl⟩
    · refine jJ_iconst (pc := 103) dX3_startStatement_103 (by decide) ?_
      refine jJ_goto (pc := 104) (tgt := 108) dX3_startStatement_104 (by decide) ?_
      refine jJ_bipush (pc := 108) dX3_startStatement_108 (by decide) ?_
      refine jJ_callVd (pc := 110) (as := [_, _]) dX3_startStatement_110 mX3_120 (jRcv_of (by assumption) rfl rfl) (Nat.le_of_ble_eq_true rfl) (jRm_ok (by omega) (by decide)) (c_Rd_expect (d := d - 1) h (by decide)) ?_
      try simp only [rdM_g1, rdM_g2, rdM_g3, rdM_g4, rdM_g5, rdM_g6, rdM_g7, rdM_g8, rdM_g9, rdM_g10, rdM_p1, rdM_p2, rdM_p3, rdM_p4, rdM_p5, rdM_p6, rdM_p7, rdM_p8, rdM_p9, rdM_p10, rdM_r, rdM_w, su_s, su_1_2, su_1_3, su_1_4, su_1_5, su_1_6, su_1_7, su_1_8, su_1_9, su_1_10, su_2_1, su_2_3, su_2_4, su_2_5, su_2_6, su_2_7, su_2_8, su_2_9, su_2_10, su_3_1, su_3_2, su_3_4, su_3_5, su_3_6, su_3_7, su_3_8, su_3_9, su_3_10, su_4_1, su_4_2, su_4_3, su_4_5, su_4_6, su_4_7, su_4_8, su_4_9, su_4_10, su_5_1, su_5_2, su_5_3, su_5_4, su_5_6, su_5_7, su_5_8, su_5_9, su_5_10, su_6_1, su_6_2, su_6_3, su_6_4, su_6_5, su_6_7, su_6_8, su_6_9, su_6_10, su_7_1, su_7_2, su_7_3, su_7_4, su_7_5, su_7_6, su_7_8, su_7_9, su_7_10, su_8_1, su_8_2, su_8_3, su_8_4, su_8_5, su_8_6, su_8_7, su_8_9, su_8_10, su_9_1, su_9_2, su_9_3, su_9_4, su_9_5, su_9_6, su_9_7, su_9_8, su_9_10, su_10_1, su_10_2, su_10_3, su_10_4, su_10_5, su_10_6, su_10_7, su_10_8, su_10_9]
      refine jJ_zret (pc := 113) dX3_startStatement_113 rfl (by decide) ?_
      exact ⟨by simp [stmV, h4, jb, *], by simp [stmS, h4, *], rfl⟩
  by_cases h5 : s 10 = 5
  · rw [h5]
    refine jJ_lookup (pc := 4) (tgt := 86) dX3_startStatement_4 (by decide) (off := 82) (by decide) (by decide) ?_
    refine jJ_aload_n (pc := 86) dX3_startStatement_86 rfl ?_
    refine jJ_iconst (pc := 87) dX3_startStatement_87 (by decide) ?_
    refine jJ_bipush (pc := 88) dX3_startStatement_88 (by decide) ?_
    refine jJ_callVd (pc := 90) (as := [_, _]) dX3_startStatement_90 mX3_142 (jRcv_of (by assumption) rfl rfl) (Nat.le_of_ble_eq_true rfl) (jRm_ok (by omega) (by decide)) (c_Rd_own (d := d - 1) h hs6) ?_
    refine jJ_zret (pc := 93) dX3_startStatement_93 rfl (by decide) ?_
    exact ⟨by simp [stmV, h5], by simp [stmS, h5, ownS], rfl⟩
  by_cases h6 : s 10 = 6
  · rw [h6]
    refine jJ_lookup (pc := 4) (tgt := 71) dX3_startStatement_4 (by decide) (off := 67) (by decide) (by decide) ?_
    refine jJ_aload_n (pc := 71) dX3_startStatement_71 rfl ?_
    refine jJ_iconst (pc := 72) dX3_startStatement_72 (by decide) ?_
    refine jJ_iconst (pc := 73) dX3_startStatement_73 (by decide) ?_
    refine jJ_callVd (pc := 74) (as := [_, _]) dX3_startStatement_74 mX3_142 (jRcv_of (by assumption) rfl rfl) (Nat.le_of_ble_eq_true rfl) (jRm_ok (by omega) (by decide)) (c_Rd_own (d := d - 1) h hs6) ?_
    refine jJ_zret (pc := 77) dX3_startStatement_77 rfl (by decide) ?_
    exact ⟨by simp [stmV, h6], by simp [stmS, h6, ownS], rfl⟩
  by_cases h7 : s 10 = 125
  · rw [h7]
    refine jJ_lookup (pc := 4) (tgt := 114) dX3_startStatement_4 (by decide) (off := 110) (by decide) (by decide) ?_
    refine jJ_aload_n (pc := 114) dX3_startStatement_114 rfl ?_
    refine jJ_callVd (pc := 115) (as := []) dX3_startStatement_115 mX3_146 (jRcv_of (by assumption) rfl rfl) (Nat.le_of_ble_eq_true rfl) (jRm_ok (by omega) (by decide)) (c_Rd_endBlock (d := d - 1) h hs1 hs2 (by omega)) ?_
    refine jJ_zret (pc := 118) dX3_startStatement_118 rfl jb_01 ?_
    exact ⟨by simp [stmV, h7], by simp [stmS, h7], rfl⟩
  · refine jJ_lookup (pc := 4) (tgt := 119) dX3_startStatement_4 (by decide) (lk_off _ h1 h3 h4 h5 h6 h7) (by decide) ?_
    refine jJ_iconst (pc := 119) dX3_startStatement_119 (by decide) ?_
    refine jJ_zret (pc := 120) dX3_startStatement_120 rfl (by decide) ?_
    exact ⟨by simp [stmV, h1, h3, h4, h5, h6, h7], by simp [stmS, h1, h3, h4, h5, h6, h7], rfl⟩
def sptV (s : Nat → Int) : Int := if s 10 = 40 then 1 else jb (s 10 = 1 ∨ s 10 = 2)
def sptS (s : Nat → Int) : Nat → Int := if s 10 = 40 then pushS (su s 4 6) else if s 10 = 1 ∨ s 10 = 2 then su s 4 7 else s
def sptR (s r : Nat → Int) : Nat → Int := if s 10 = 40 then pushR (su s 4 6) r 0 else r
theorem c_Rd_startPart (h : RdL E P rd op) (hs : RdOk s) (hd : 1 ≤ d) : jC E yX3_startPart cX3_startPart 1 (some .boolean) d [jp rd] (rdM I rd op s r) P (jD (some (ji (sptV s))) (rdM I rd op (sptS s) (sptR s r)) P) := by
  have h0 := h.1
  obtain ⟨hs1, hs2, hs6⟩ := hs
  refine jC_intro (by decide +kernel) (by simp [jc, va_rf, Value.category]) (Nat.le_of_ble_eq_true rfl) ?_
  refine jJ_aload_n (pc := 0) dX3_startPart_0 rfl ?_
  refine jJ_geti (pc := 1) dX3_startPart_1 fX3_45 rfl (by assumption) ?_
  try simp only [rdM_g1, rdM_g2, rdM_g3, rdM_g4, rdM_g5, rdM_g6, rdM_g7, rdM_g8, rdM_g9, rdM_g10, rdM_p1, rdM_p2, rdM_p3, rdM_p4, rdM_p5, rdM_p6, rdM_p7, rdM_p8, rdM_p9, rdM_p10, rdM_r, rdM_w, su_s, su_1_2, su_1_3, su_1_4, su_1_5, su_1_6, su_1_7, su_1_8, su_1_9, su_1_10, su_2_1, su_2_3, su_2_4, su_2_5, su_2_6, su_2_7, su_2_8, su_2_9, su_2_10, su_3_1, su_3_2, su_3_4, su_3_5, su_3_6, su_3_7, su_3_8, su_3_9, su_3_10, su_4_1, su_4_2, su_4_3, su_4_5, su_4_6, su_4_7, su_4_8, su_4_9, su_4_10, su_5_1, su_5_2, su_5_3, su_5_4, su_5_6, su_5_7, su_5_8, su_5_9, su_5_10, su_6_1, su_6_2, su_6_3, su_6_4, su_6_5, su_6_7, su_6_8, su_6_9, su_6_10, su_7_1, su_7_2, su_7_3, su_7_4, su_7_5, su_7_6, su_7_8, su_7_9, su_7_10, su_8_1, su_8_2, su_8_3, su_8_4, su_8_5, su_8_6, su_8_7, su_8_9, su_8_10, su_9_1, su_9_2, su_9_3, su_9_4, su_9_5, su_9_6, su_9_7, su_9_8, su_9_10, su_10_1, su_10_2, su_10_3, su_10_4, su_10_5, su_10_6, su_10_7, su_10_8, su_10_9]
  refine jJ_bipush (pc := 4) dX3_startPart_4 (by decide) ?_
  refine jJ_icmp_ne (pc := 6) (tgt := 21) dX3_startPart_6 (by decide) (fun c6 => ?_) (fun c6 => ?_)
  · refine jJ_aload_n (pc := 21) dX3_startPart_21 rfl ?_
    refine jJ_aload_n (pc := 22) dX3_startPart_22 rfl ?_
    refine jJ_geti (pc := 23) dX3_startPart_23 fX3_45 rfl (by assumption) ?_
    try simp only [rdM_g1, rdM_g2, rdM_g3, rdM_g4, rdM_g5, rdM_g6, rdM_g7, rdM_g8, rdM_g9, rdM_g10, rdM_p1, rdM_p2, rdM_p3, rdM_p4, rdM_p5, rdM_p6, rdM_p7, rdM_p8, rdM_p9, rdM_p10, rdM_r, rdM_w, su_s, su_1_2, su_1_3, su_1_4, su_1_5, su_1_6, su_1_7, su_1_8, su_1_9, su_1_10, su_2_1, su_2_3, su_2_4, su_2_5, su_2_6, su_2_7, su_2_8, su_2_9, su_2_10, su_3_1, su_3_2, su_3_4, su_3_5, su_3_6, su_3_7, su_3_8, su_3_9, su_3_10, su_4_1, su_4_2, su_4_3, su_4_5, su_4_6, su_4_7, su_4_8, su_4_9, su_4_10, su_5_1, su_5_2, su_5_3, su_5_4, su_5_6, su_5_7, su_5_8, su_5_9, su_5_10, su_6_1, su_6_2, su_6_3, su_6_4, su_6_5, su_6_7, su_6_8, su_6_9, su_6_10, su_7_1, su_7_2, su_7_3, su_7_4, su_7_5, su_7_6, su_7_8, su_7_9, su_7_10, su_8_1, su_8_2, su_8_3, su_8_4, su_8_5, su_8_6, su_8_7, su_8_9, su_8_10, su_9_1, su_9_2, su_9_3, su_9_4, su_9_5, su_9_6, su_9_7, su_9_8, su_9_10, su_10_1, su_10_2, su_10_3, su_10_4, su_10_5, su_10_6, su_10_7, su_10_8, su_10_9]
    refine jJ_iconst (pc := 26) dX3_startPart_26 (by decide) ?_
    refine jJ_icmp_eq (pc := 27) (tgt := 38) dX3_startPart_27 (by decide) (fun c27 => ?_) (fun c27 => ?_)
    · refine jJ_iconst (pc := 38) dX3_startPart_38 (by decide) ?_
      refine jJ_goto (pc := 39) (tgt := 43) dX3_startPart_39 (by decide) ?_
      refine jJ_bipush (pc := 43) dX3_startPart_43 (by decide) ?_
      refine jJ_callVd (pc := 45) (as := [_, _]) dX3_startPart_45 mX3_120 (jRcv_of (by assumption) rfl rfl) (Nat.le_of_ble_eq_true rfl) (jRm_ok (by omega) (by decide)) (c_Rd_expect (d := d - 1) h (by decide)) ?_
      try simp only [rdM_g1, rdM_g2, rdM_g3, rdM_g4, rdM_g5, rdM_g6, rdM_g7, rdM_g8, rdM_g9, rdM_g10, rdM_p1, rdM_p2, rdM_p3, rdM_p4, rdM_p5, rdM_p6, rdM_p7, rdM_p8, rdM_p9, rdM_p10, rdM_r, rdM_w, su_s, su_1_2, su_1_3, su_1_4, su_1_5, su_1_6, su_1_7, su_1_8, su_1_9, su_1_10, su_2_1, su_2_3, su_2_4, su_2_5, su_2_6, su_2_7, su_2_8, su_2_9, su_2_10, su_3_1, su_3_2, su_3_4, su_3_5, su_3_6, su_3_7, su_3_8, su_3_9, su_3_10, su_4_1, su_4_2, su_4_3, su_4_5, su_4_6, su_4_7, su_4_8, su_4_9, su_4_10, su_5_1, su_5_2, su_5_3, su_5_4, su_5_6, su_5_7, su_5_8, su_5_9, su_5_10, su_6_1, su_6_2, su_6_3, su_6_4, su_6_5, su_6_7, su_6_8, su_6_9, su_6_10, su_7_1, su_7_2, su_7_3, su_7_4, su_7_5, su_7_6, su_7_8, su_7_9, su_7_10, su_8_1, su_8_2, su_8_3, su_8_4, su_8_5, su_8_6, su_8_7, su_8_9, su_8_10, su_9_1, su_9_2, su_9_3, su_9_4, su_9_5, su_9_6, su_9_7, su_9_8, su_9_10, su_10_1, su_10_2, su_10_3, su_10_4, su_10_5, su_10_6, su_10_7, su_10_8, su_10_9]
      refine jJ_zret (pc := 48) dX3_startPart_48 rfl (by decide) ?_
      exact ⟨by simp [sptV, jb, *], by simp [sptS, sptR, *], rfl⟩
    · refine jJ_aload_n (pc := 30) dX3_startPart_30 rfl ?_
      refine jJ_geti (pc := 31) dX3_startPart_31 fX3_45 rfl (by assumption) ?_
      try simp only [rdM_g1, rdM_g2, rdM_g3, rdM_g4, rdM_g5, rdM_g6, rdM_g7, rdM_g8, rdM_g9, rdM_g10, rdM_p1, rdM_p2, rdM_p3, rdM_p4, rdM_p5, rdM_p6, rdM_p7, rdM_p8, rdM_p9, rdM_p10, rdM_r, rdM_w, su_s, su_1_2, su_1_3, su_1_4, su_1_5, su_1_6, su_1_7, su_1_8, su_1_9, su_1_10, su_2_1, su_2_3, su_2_4, su_2_5, su_2_6, su_2_7, su_2_8, su_2_9, su_2_10, su_3_1, su_3_2, su_3_4, su_3_5, su_3_6, su_3_7, su_3_8, su_3_9, su_3_10, su_4_1, su_4_2, su_4_3, su_4_5, su_4_6, su_4_7, su_4_8, su_4_9, su_4_10, su_5_1, su_5_2, su_5_3, su_5_4, su_5_6, su_5_7, su_5_8, su_5_9, su_5_10, su_6_1, su_6_2, su_6_3, su_6_4, su_6_5, su_6_7, su_6_8, su_6_9, su_6_10, su_7_1, su_7_2, su_7_3, su_7_4, su_7_5, su_7_6, su_7_8, su_7_9, su_7_10, su_8_1, su_8_2, su_8_3, su_8_4, su_8_5, su_8_6, su_8_7, su_8_9, su_8_10, su_9_1, su_9_2, su_9_3, su_9_4, su_9_5, su_9_6, su_9_7, su_9_8, su_9_10, su_10_1, su_10_2, su_10_3, su_10_4, su_10_5, su_10_6, su_10_7, su_10_8, su_10_9]
      refine jJ_iconst (pc := 34) dX3_startPart_34 (by decide) ?_
      refine jJ_icmp_ne (pc := 35) (tgt := 42) dX3_startPart_35 (by decide) (fun c35 => ?_) (fun c35 => ?_)
      · refine jJ_iconst (pc := 42) dX3_startPart_42 (by decide) ?_
        refine jJ_bipush (pc := 43) dX3_startPart_43 (by decide) ?_
        refine jJ_callVd (pc := 45) (as := [_, _]) dX3_startPart_45 mX3_120 (jRcv_of (by assumption) rfl rfl) (Nat.le_of_ble_eq_true rfl) (jRm_ok (by omega) (by decide)) (c_Rd_expect (d := d - 1) h (by decide)) ?_
        try simp only [rdM_g1, rdM_g2, rdM_g3, rdM_g4, rdM_g5, rdM_g6, rdM_g7, rdM_g8, rdM_g9, rdM_g10, rdM_p1, rdM_p2, rdM_p3, rdM_p4, rdM_p5, rdM_p6, rdM_p7, rdM_p8, rdM_p9, rdM_p10, rdM_r, rdM_w, su_s, su_1_2, su_1_3, su_1_4, su_1_5, su_1_6, su_1_7, su_1_8, su_1_9, su_1_10, su_2_1, su_2_3, su_2_4, su_2_5, su_2_6, su_2_7, su_2_8, su_2_9, su_2_10, su_3_1, su_3_2, su_3_4, su_3_5, su_3_6, su_3_7, su_3_8, su_3_9, su_3_10, su_4_1, su_4_2, su_4_3, su_4_5, su_4_6, su_4_7, su_4_8, su_4_9, su_4_10, su_5_1, su_5_2, su_5_3, su_5_4, su_5_6, su_5_7, su_5_8, su_5_9, su_5_10, su_6_1, su_6_2, su_6_3, su_6_4, su_6_5, su_6_7, su_6_8, su_6_9, su_6_10, su_7_1, su_7_2, su_7_3, su_7_4, su_7_5, su_7_6, su_7_8, su_7_9, su_7_10, su_8_1, su_8_2, su_8_3, su_8_4, su_8_5, su_8_6, su_8_7, su_8_9, su_8_10, su_9_1, su_9_2, su_9_3, su_9_4, su_9_5, su_9_6, su_9_7, su_9_8, su_9_10, su_10_1, su_10_2, su_10_3, su_10_4, su_10_5, su_10_6, su_10_7, su_10_8, su_10_9]
        refine jJ_zret (pc := 48) dX3_startPart_48 rfl (by decide) ?_
        exact ⟨by simp [sptV, jb, *], by simp [sptS, sptR, *], rfl⟩
      · refine jJ_iconst (pc := 38) dX3_startPart_38 (by decide) ?_
        refine jJ_goto (pc := 39) (tgt := 43) dX3_startPart_39 (by decide) ?_
        refine jJ_bipush (pc := 43) dX3_startPart_43 (by decide) ?_
        refine jJ_callVd (pc := 45) (as := [_, _]) dX3_startPart_45 mX3_120 (jRcv_of (by assumption) rfl rfl) (Nat.le_of_ble_eq_true rfl) (jRm_ok (by omega) (by decide)) (c_Rd_expect (d := d - 1) h (by decide)) ?_
        try simp only [rdM_g1, rdM_g2, rdM_g3, rdM_g4, rdM_g5, rdM_g6, rdM_g7, rdM_g8, rdM_g9, rdM_g10, rdM_p1, rdM_p2, rdM_p3, rdM_p4, rdM_p5, rdM_p6, rdM_p7, rdM_p8, rdM_p9, rdM_p10, rdM_r, rdM_w, su_s, su_1_2, su_1_3, su_1_4, su_1_5, su_1_6, su_1_7, su_1_8, su_1_9, su_1_10, su_2_1, su_2_3, su_2_4, su_2_5, su_2_6, su_2_7, su_2_8, su_2_9, su_2_10, su_3_1, su_3_2, su_3_4, su_3_5, su_3_6, su_3_7, su_3_8, su_3_9, su_3_10, su_4_1, su_4_2, su_4_3, su_4_5, su_4_6, su_4_7, su_4_8, su_4_9, su_4_10, su_5_1, su_5_2, su_5_3, su_5_4, su_5_6, su_5_7, su_5_8, su_5_9, su_5_10, su_6_1, su_6_2, su_6_3, su_6_4, su_6_5, su_6_7, su_6_8, su_6_9, su_6_10, su_7_1, su_7_2, su_7_3, su_7_4, su_7_5, su_7_6, su_7_8, su_7_9, su_7_10, su_8_1, su_8_2, su_8_3, su_8_4, su_8_5, su_8_6, su_8_7, su_8_9, su_8_10, su_9_1, su_9_2, su_9_3, su_9_4, su_9_5, su_9_6, su_9_7, su_9_8, su_9_10, su_10_1, su_10_2, su_10_3, su_10_4, su_10_5, su_10_6, su_10_7, su_10_8, su_10_9]
        refine jJ_zret (pc := 48) dX3_startPart_48 rfl (by decide) ?_
        exact ⟨by simp [sptV, jb, *], by simp [sptS, sptR, *], rfl⟩
  · refine jJ_aload_n (pc := 9) dX3_startPart_9 rfl ?_
    refine jJ_bipush (pc := 10) dX3_startPart_10 (by decide) ?_
    refine jJ_puti (pc := 12) dX3_startPart_12 fX3_29w rfl ⟨rfl, rfl⟩ (by assumption) ?_
    try simp only [rdM_g1, rdM_g2, rdM_g3, rdM_g4, rdM_g5, rdM_g6, rdM_g7, rdM_g8, rdM_g9, rdM_g10, rdM_p1, rdM_p2, rdM_p3, rdM_p4, rdM_p5, rdM_p6, rdM_p7, rdM_p8, rdM_p9, rdM_p10, rdM_r, rdM_w, su_s, su_1_2, su_1_3, su_1_4, su_1_5, su_1_6, su_1_7, su_1_8, su_1_9, su_1_10, su_2_1, su_2_3, su_2_4, su_2_5, su_2_6, su_2_7, su_2_8, su_2_9, su_2_10, su_3_1, su_3_2, su_3_4, su_3_5, su_3_6, su_3_7, su_3_8, su_3_9, su_3_10, su_4_1, su_4_2, su_4_3, su_4_5, su_4_6, su_4_7, su_4_8, su_4_9, su_4_10, su_5_1, su_5_2, su_5_3, su_5_4, su_5_6, su_5_7, su_5_8, su_5_9, su_5_10, su_6_1, su_6_2, su_6_3, su_6_4, su_6_5, su_6_7, su_6_8, su_6_9, su_6_10, su_7_1, su_7_2, su_7_3, su_7_4, su_7_5, su_7_6, su_7_8, su_7_9, su_7_10, su_8_1, su_8_2, su_8_3, su_8_4, su_8_5, su_8_6, su_8_7, su_8_9, su_8_10, su_9_1, su_9_2, su_9_3, su_9_4, su_9_5, su_9_6, su_9_7, su_9_8, su_9_10, su_10_1, su_10_2, su_10_3, su_10_4, su_10_5, su_10_6, su_10_7, su_10_8, su_10_9]
    refine jJ_aload_n (pc := 15) dX3_startPart_15 rfl ?_
    refine jJ_iconst (pc := 16) dX3_startPart_16 (by decide) ?_
    refine jJ_callVd (pc := 17) (as := [_]) dX3_startPart_17 mX3_124 (jRcv_of (by assumption) rfl rfl) (Nat.le_of_ble_eq_true rfl) (jRm_ok (by omega) (by decide)) (c_Rd_push (d := d - 1) h hs1) ?_
    try simp only [rdM_g1, rdM_g2, rdM_g3, rdM_g4, rdM_g5, rdM_g6, rdM_g7, rdM_g8, rdM_g9, rdM_g10, rdM_p1, rdM_p2, rdM_p3, rdM_p4, rdM_p5, rdM_p6, rdM_p7, rdM_p8, rdM_p9, rdM_p10, rdM_r, rdM_w, su_s, su_1_2, su_1_3, su_1_4, su_1_5, su_1_6, su_1_7, su_1_8, su_1_9, su_1_10, su_2_1, su_2_3, su_2_4, su_2_5, su_2_6, su_2_7, su_2_8, su_2_9, su_2_10, su_3_1, su_3_2, su_3_4, su_3_5, su_3_6, su_3_7, su_3_8, su_3_9, su_3_10, su_4_1, su_4_2, su_4_3, su_4_5, su_4_6, su_4_7, su_4_8, su_4_9, su_4_10, su_5_1, su_5_2, su_5_3, su_5_4, su_5_6, su_5_7, su_5_8, su_5_9, su_5_10, su_6_1, su_6_2, su_6_3, su_6_4, su_6_5, su_6_7, su_6_8, su_6_9, su_6_10, su_7_1, su_7_2, su_7_3, su_7_4, su_7_5, su_7_6, su_7_8, su_7_9, su_7_10, su_8_1, su_8_2, su_8_3, su_8_4, su_8_5, su_8_6, su_8_7, su_8_9, su_8_10, su_9_1, su_9_2, su_9_3, su_9_4, su_9_5, su_9_6, su_9_7, su_9_8, su_9_10, su_10_1, su_10_2, su_10_3, su_10_4, su_10_5, su_10_6, su_10_7, su_10_8, su_10_9]
    refine jJ_zret (pc := 20) dX3_startPart_20 rfl (by decide) ?_
    exact ⟨by simp [sptV, jb, *], by simp [sptS, sptR, *], rfl⟩
def goV (s r : Nat → Int) : Int := if s 10 = 43 ∨ s 10 = 45 ∨ s 10 = 60 then 1 else if rInner s r = 0 then jb (s 10 = 41) else if rInner s r = 1 then (if s 10 = 41 then 1 else jb (s 10 = 44)) else if s 5 = 0 then jb (s 10 = 59) else jb (s 10 = 123)
def goS (s r : Nat → Int) : Nat → Int := if s 10 = 43 ∨ s 10 = 45 ∨ s 10 = 60 then su s 4 6 else if rInner s r = 0 then (if s 10 = 41 then endBrS s r else s) else if rInner s r = 1 then (if s 10 = 41 then endBrS s r else if s 10 = 44 then su s 4 6 else s) else if s 5 = 0 then (if s 10 = 59 then su s 4 0 else s) else if s 10 = 123 then stBlS s else s
def goR (s r : Nat → Int) : Nat → Int := if s 10 = 43 ∨ s 10 = 45 ∨ s 10 = 60 then r else if rInner s r = 0 then r else if rInner s r = 1 then r else if s 5 = 0 then r else if s 10 = 123 then stBlR s r (if s 5 = 2 then 2 else 4) else r
theorem c_Rd_goOn (h : RdL E P rd op) (hs : RdOk s) (hd : 2 ≤ d) : jC E yX3_goOnBehindPart cX3_goOnBehindPart 1 (some .boolean) d [jp rd] (rdM I rd op s r) P (jD (some (ji (goV s r))) (rdM I rd op (goS s r) (goR s r)) P) := by
  have h0 := h.1
  obtain ⟨hs1, hs2, hs6⟩ := hs
  refine jC_intro (by decide +kernel) (by simp [jc, va_rf, Value.category]) (Nat.le_of_ble_eq_true rfl) ?_
  refine jJ_aload_n (pc := 0) dX3_goOnBehindPart_0 rfl ?_
  refine jJ_geti (pc := 1) dX3_goOnBehindPart_1 fX3_45 rfl (by assumption) ?_
  try simp only [rdM_g1, rdM_g2, rdM_g3, rdM_g4, rdM_g5, rdM_g6, rdM_g7, rdM_g8, rdM_g9, rdM_g10, rdM_p1, rdM_p2, rdM_p3, rdM_p4, rdM_p5, rdM_p6, rdM_p7, rdM_p8, rdM_p9, rdM_p10, rdM_r, rdM_w, su_s, su_1_2, su_1_3, su_1_4, su_1_5, su_1_6, su_1_7, su_1_8, su_1_9, su_1_10, su_2_1, su_2_3, su_2_4, su_2_5, su_2_6, su_2_7, su_2_8, su_2_9, su_2_10, su_3_1, su_3_2, su_3_4, su_3_5, su_3_6, su_3_7, su_3_8, su_3_9, su_3_10, su_4_1, su_4_2, su_4_3, su_4_5, su_4_6, su_4_7, su_4_8, su_4_9, su_4_10, su_5_1, su_5_2, su_5_3, su_5_4, su_5_6, su_5_7, su_5_8, su_5_9, su_5_10, su_6_1, su_6_2, su_6_3, su_6_4, su_6_5, su_6_7, su_6_8, su_6_9, su_6_10, su_7_1, su_7_2, su_7_3, su_7_4, su_7_5, su_7_6, su_7_8, su_7_9, su_7_10, su_8_1, su_8_2, su_8_3, su_8_4, su_8_5, su_8_6, su_8_7, su_8_9, su_8_10, su_9_1, su_9_2, su_9_3, su_9_4, su_9_5, su_9_6, su_9_7, su_9_8, su_9_10, su_10_1, su_10_2, su_10_3, su_10_4, su_10_5, su_10_6, su_10_7, su_10_8, su_10_9]
  refine jJ_callSd (pc := 4) (as := [_]) dX3_goOnBehindPart_4 mX3_117 (Nat.le_of_ble_eq_true rfl) (jRm_ok (by omega) (by decide)) (c_isOperator (d := d - 1)) ?_
  try simp only [rdM_g1, rdM_g2, rdM_g3, rdM_g4, rdM_g5, rdM_g6, rdM_g7, rdM_g8, rdM_g9, rdM_g10, rdM_p1, rdM_p2, rdM_p3, rdM_p4, rdM_p5, rdM_p6, rdM_p7, rdM_p8, rdM_p9, rdM_p10, rdM_r, rdM_w, su_s, su_1_2, su_1_3, su_1_4, su_1_5, su_1_6, su_1_7, su_1_8, su_1_9, su_1_10, su_2_1, su_2_3, su_2_4, su_2_5, su_2_6, su_2_7, su_2_8, su_2_9, su_2_10, su_3_1, su_3_2, su_3_4, su_3_5, su_3_6, su_3_7, su_3_8, su_3_9, su_3_10, su_4_1, su_4_2, su_4_3, su_4_5, su_4_6, su_4_7, su_4_8, su_4_9, su_4_10, su_5_1, su_5_2, su_5_3, su_5_4, su_5_6, su_5_7, su_5_8, su_5_9, su_5_10, su_6_1, su_6_2, su_6_3, su_6_4, su_6_5, su_6_7, su_6_8, su_6_9, su_6_10, su_7_1, su_7_2, su_7_3, su_7_4, su_7_5, su_7_6, su_7_8, su_7_9, su_7_10, su_8_1, su_8_2, su_8_3, su_8_4, su_8_5, su_8_6, su_8_7, su_8_9, su_8_10, su_9_1, su_9_2, su_9_3, su_9_4, su_9_5, su_9_6, su_9_7, su_9_8, su_9_10, su_10_1, su_10_2, su_10_3, su_10_4, su_10_5, su_10_6, su_10_7, su_10_8, su_10_9]
  refine jJ_if_eq (pc := 7) (tgt := 18) dX3_goOnBehindPart_7 (by decide) (fun c7 => ?_) (fun c7 => ?_)
  · try simp only [jb_z, jb_nz] at c7
    refine jJ_aload_n (pc := 18) dX3_goOnBehindPart_18 rfl ?_
    refine jJ_callVd (pc := 19) (as := []) dX3_goOnBehindPart_19 mX3_149 (jRcv_of (by assumption) rfl rfl) (Nat.le_of_ble_eq_true rfl) (jRm_ok (by omega) (by decide)) (c_Rd_innermost (d := d - 1) h ⟨by omega, by omega⟩) ?_
    try simp only [rdM_g1, rdM_g2, rdM_g3, rdM_g4, rdM_g5, rdM_g6, rdM_g7, rdM_g8, rdM_g9, rdM_g10, rdM_p1, rdM_p2, rdM_p3, rdM_p4, rdM_p5, rdM_p6, rdM_p7, rdM_p8, rdM_p9, rdM_p10, rdM_r, rdM_w, su_s, su_1_2, su_1_3, su_1_4, su_1_5, su_1_6, su_1_7, su_1_8, su_1_9, su_1_10, su_2_1, su_2_3, su_2_4, su_2_5, su_2_6, su_2_7, su_2_8, su_2_9, su_2_10, su_3_1, su_3_2, su_3_4, su_3_5, su_3_6, su_3_7, su_3_8, su_3_9, su_3_10, su_4_1, su_4_2, su_4_3, su_4_5, su_4_6, su_4_7, su_4_8, su_4_9, su_4_10, su_5_1, su_5_2, su_5_3, su_5_4, su_5_6, su_5_7, su_5_8, su_5_9, su_5_10, su_6_1, su_6_2, su_6_3, su_6_4, su_6_5, su_6_7, su_6_8, su_6_9, su_6_10, su_7_1, su_7_2, su_7_3, su_7_4, su_7_5, su_7_6, su_7_8, su_7_9, su_7_10, su_8_1, su_8_2, su_8_3, su_8_4, su_8_5, su_8_6, su_8_7, su_8_9, su_8_10, su_9_1, su_9_2, su_9_3, su_9_4, su_9_5, su_9_6, su_9_7, su_9_8, su_9_10, su_10_1, su_10_2, su_10_3, su_10_4, su_10_5, su_10_6, su_10_7, su_10_8, su_10_9]
    refine jJ_if_ne (pc := 22) (tgt := 47) dX3_goOnBehindPart_22 (by decide) (fun c22 => ?_) (fun c22 => ?_)
    · try simp only [jb_z, jb_nz] at c22
      refine jJ_aload_n (pc := 47) dX3_goOnBehindPart_47 rfl ?_
      refine jJ_callVd (pc := 48) (as := []) dX3_goOnBehindPart_48 mX3_149 (jRcv_of (by assumption) rfl rfl) (Nat.le_of_ble_eq_true rfl) (jRm_ok (by omega) (by decide)) (c_Rd_innermost (d := d - 1) h ⟨by omega, by omega⟩) ?_
      try simp only [rdM_g1, rdM_g2, rdM_g3, rdM_g4, rdM_g5, rdM_g6, rdM_g7, rdM_g8, rdM_g9, rdM_g10, rdM_p1, rdM_p2, rdM_p3, rdM_p4, rdM_p5, rdM_p6, rdM_p7, rdM_p8, rdM_p9, rdM_p10, rdM_r, rdM_w, su_s, su_1_2, su_1_3, su_1_4, su_1_5, su_1_6, su_1_7, su_1_8, su_1_9, su_1_10, su_2_1, su_2_3, su_2_4, su_2_5, su_2_6, su_2_7, su_2_8, su_2_9, su_2_10, su_3_1, su_3_2, su_3_4, su_3_5, su_3_6, su_3_7, su_3_8, su_3_9, su_3_10, su_4_1, su_4_2, su_4_3, su_4_5, su_4_6, su_4_7, su_4_8, su_4_9, su_4_10, su_5_1, su_5_2, su_5_3, su_5_4, su_5_6, su_5_7, su_5_8, su_5_9, su_5_10, su_6_1, su_6_2, su_6_3, su_6_4, su_6_5, su_6_7, su_6_8, su_6_9, su_6_10, su_7_1, su_7_2, su_7_3, su_7_4, su_7_5, su_7_6, su_7_8, su_7_9, su_7_10, su_8_1, su_8_2, su_8_3, su_8_4, su_8_5, su_8_6, su_8_7, su_8_9, su_8_10, su_9_1, su_9_2, su_9_3, su_9_4, su_9_5, su_9_6, su_9_7, su_9_8, su_9_10, su_10_1, su_10_2, su_10_3, su_10_4, su_10_5, su_10_6, su_10_7, su_10_8, su_10_9]
      refine jJ_iconst (pc := 51) dX3_goOnBehindPart_51 (by decide) ?_
      refine jJ_icmp_ne (pc := 52) (tgt := 92) dX3_goOnBehindPart_52 (by decide) (fun c52 => ?_) (fun c52 => ?_)
      · try simp only [jb_z, jb_nz] at c52
        refine jJ_aload_n (pc := 92) dX3_goOnBehindPart_92 rfl ?_
        refine jJ_geti (pc := 93) dX3_goOnBehindPart_93 fX3_32 rfl (by assumption) ?_
        try simp only [rdM_g1, rdM_g2, rdM_g3, rdM_g4, rdM_g5, rdM_g6, rdM_g7, rdM_g8, rdM_g9, rdM_g10, rdM_p1, rdM_p2, rdM_p3, rdM_p4, rdM_p5, rdM_p6, rdM_p7, rdM_p8, rdM_p9, rdM_p10, rdM_r, rdM_w, su_s, su_1_2, su_1_3, su_1_4, su_1_5, su_1_6, su_1_7, su_1_8, su_1_9, su_1_10, su_2_1, su_2_3, su_2_4, su_2_5, su_2_6, su_2_7, su_2_8, su_2_9, su_2_10, su_3_1, su_3_2, su_3_4, su_3_5, su_3_6, su_3_7, su_3_8, su_3_9, su_3_10, su_4_1, su_4_2, su_4_3, su_4_5, su_4_6, su_4_7, su_4_8, su_4_9, su_4_10, su_5_1, su_5_2, su_5_3, su_5_4, su_5_6, su_5_7, su_5_8, su_5_9, su_5_10, su_6_1, su_6_2, su_6_3, su_6_4, su_6_5, su_6_7, su_6_8, su_6_9, su_6_10, su_7_1, su_7_2, su_7_3, su_7_4, su_7_5, su_7_6, su_7_8, su_7_9, su_7_10, su_8_1, su_8_2, su_8_3, su_8_4, su_8_5, su_8_6, su_8_7, su_8_9, su_8_10, su_9_1, su_9_2, su_9_3, su_9_4, su_9_5, su_9_6, su_9_7, su_9_8, su_9_10, su_10_1, su_10_2, su_10_3, su_10_4, su_10_5, su_10_6, su_10_7, su_10_8, su_10_9]
        refine jJ_if_ne (pc := 96) (tgt := 119) dX3_goOnBehindPart_96 (by decide) (fun c96 => ?_) (fun c96 => ?_)
        · try simp only [jb_z, jb_nz] at c96
          refine jJ_aload_n (pc := 119) dX3_goOnBehindPart_119 rfl ?_
          refine jJ_geti (pc := 120) dX3_goOnBehindPart_120 fX3_45 rfl (by assumption) ?_
          try simp only [rdM_g1, rdM_g2, rdM_g3, rdM_g4, rdM_g5, rdM_g6, rdM_g7, rdM_g8, rdM_g9, rdM_g10, rdM_p1, rdM_p2, rdM_p3, rdM_p4, rdM_p5, rdM_p6, rdM_p7, rdM_p8, rdM_p9, rdM_p10, rdM_r, rdM_w, su_s, su_1_2, su_1_3, su_1_4, su_1_5, su_1_6, su_1_7, su_1_8, su_1_9, su_1_10, su_2_1, su_2_3, su_2_4, su_2_5, su_2_6, su_2_7, su_2_8, su_2_9, su_2_10, su_3_1, su_3_2, su_3_4, su_3_5, su_3_6, su_3_7, su_3_8, su_3_9, su_3_10, su_4_1, su_4_2, su_4_3, su_4_5, su_4_6, su_4_7, su_4_8, su_4_9, su_4_10, su_5_1, su_5_2, su_5_3, su_5_4, su_5_6, su_5_7, su_5_8, su_5_9, su_5_10, su_6_1, su_6_2, su_6_3, su_6_4, su_6_5, su_6_7, su_6_8, su_6_9, su_6_10, su_7_1, su_7_2, su_7_3, su_7_4, su_7_5, su_7_6, su_7_8, su_7_9, su_7_10, su_8_1, su_8_2, su_8_3, su_8_4, su_8_5, su_8_6, su_8_7, su_8_9, su_8_10, su_9_1, su_9_2, su_9_3, su_9_4, su_9_5, su_9_6, su_9_7, su_9_8, su_9_10, su_10_1, su_10_2, su_10_3, su_10_4, su_10_5, su_10_6, su_10_7, su_10_8, su_10_9]
          refine jJ_bipush (pc := 123) dX3_goOnBehindPart_123 (by decide) ?_
          refine jJ_icmp_ne (pc := 125) (tgt := 152) dX3_goOnBehindPart_125 (by decide) (fun c125 => ?_) (fun c125 => ?_)
          · try simp only [jb_z, jb_nz] at c125
            refine jJ_iconst (pc := 152) dX3_goOnBehindPart_152 (by decide) ?_
            refine jJ_zret (pc := 153) dX3_goOnBehindPart_153 rfl (by decide) ?_
            first | (exfalso; omega) | exact ⟨by simp [goV, jb, *], by simp [goS, goR, *], rfl⟩
          · try simp only [jb_z, jb_nz] at c125
            refine jJ_aload_n (pc := 128) dX3_goOnBehindPart_128 rfl ?_
            refine jJ_aload_n (pc := 129) dX3_goOnBehindPart_129 rfl ?_
            refine jJ_geti (pc := 130) dX3_goOnBehindPart_130 fX3_32 rfl (by assumption) ?_
            try simp only [rdM_g1, rdM_g2, rdM_g3, rdM_g4, rdM_g5, rdM_g6, rdM_g7, rdM_g8, rdM_g9, rdM_g10, rdM_p1, rdM_p2, rdM_p3, rdM_p4, rdM_p5, rdM_p6, rdM_p7, rdM_p8, rdM_p9, rdM_p10, rdM_r, rdM_w, su_s, su_1_2, su_1_3, su_1_4, su_1_5, su_1_6, su_1_7, su_1_8, su_1_9, su_1_10, su_2_1, su_2_3, su_2_4, su_2_5, su_2_6, su_2_7, su_2_8, su_2_9, su_2_10, su_3_1, su_3_2, su_3_4, su_3_5, su_3_6, su_3_7, su_3_8, su_3_9, su_3_10, su_4_1, su_4_2, su_4_3, su_4_5, su_4_6, su_4_7, su_4_8, su_4_9, su_4_10, su_5_1, su_5_2, su_5_3, su_5_4, su_5_6, su_5_7, su_5_8, su_5_9, su_5_10, su_6_1, su_6_2, su_6_3, su_6_4, su_6_5, su_6_7, su_6_8, su_6_9, su_6_10, su_7_1, su_7_2, su_7_3, su_7_4, su_7_5, su_7_6, su_7_8, su_7_9, su_7_10, su_8_1, su_8_2, su_8_3, su_8_4, su_8_5, su_8_6, su_8_7, su_8_9, su_8_10, su_9_1, su_9_2, su_9_3, su_9_4, su_9_5, su_9_6, su_9_7, su_9_8, su_9_10, su_10_1, su_10_2, su_10_3, su_10_4, su_10_5, su_10_6, su_10_7, su_10_8, su_10_9]
            refine jJ_iconst (pc := 133) dX3_goOnBehindPart_133 (by decide) ?_
            refine jJ_icmp_ne (pc := 134) (tgt := 141) dX3_goOnBehindPart_134 (by decide) (fun c134 => ?_) (fun c134 => ?_)
            · try simp only [jb_z, jb_nz] at c134
              refine jJ_iconst (pc := 141) dX3_goOnBehindPart_141 (by decide) ?_
              refine jJ_callVd (pc := 142) (as := [_]) dX3_goOnBehindPart_142 mX3_136 (jRcv_of (by assumption) rfl rfl) (Nat.le_of_ble_eq_true rfl) (jRm_ok (by omega) (by decide)) (c_Rd_startBlock (d := d - 1) h hs1 hs2 (by omega)) ?_
              try simp only [rdM_g1, rdM_g2, rdM_g3, rdM_g4, rdM_g5, rdM_g6, rdM_g7, rdM_g8, rdM_g9, rdM_g10, rdM_p1, rdM_p2, rdM_p3, rdM_p4, rdM_p5, rdM_p6, rdM_p7, rdM_p8, rdM_p9, rdM_p10, rdM_r, rdM_w, su_s, su_1_2, su_1_3, su_1_4, su_1_5, su_1_6, su_1_7, su_1_8, su_1_9, su_1_10, su_2_1, su_2_3, su_2_4, su_2_5, su_2_6, su_2_7, su_2_8, su_2_9, su_2_10, su_3_1, su_3_2, su_3_4, su_3_5, su_3_6, su_3_7, su_3_8, su_3_9, su_3_10, su_4_1, su_4_2, su_4_3, su_4_5, su_4_6, su_4_7, su_4_8, su_4_9, su_4_10, su_5_1, su_5_2, su_5_3, su_5_4, su_5_6, su_5_7, su_5_8, su_5_9, su_5_10, su_6_1, su_6_2, su_6_3, su_6_4, su_6_5, su_6_7, su_6_8, su_6_9, su_6_10, su_7_1, su_7_2, su_7_3, su_7_4, su_7_5, su_7_6, su_7_8, su_7_9, su_7_10, su_8_1, su_8_2, su_8_3, su_8_4, su_8_5, su_8_6, su_8_7, su_8_9, su_8_10, su_9_1, su_9_2, su_9_3, su_9_4, su_9_5, su_9_6, su_9_7, su_9_8, su_9_10, su_10_1, su_10_2, su_10_3, su_10_4, su_10_5, su_10_6, su_10_7, su_10_8, su_10_9]
              refine jJ_if_eq (pc := 145) (tgt := 152) dX3_goOnBehindPart_145 (by decide) (fun c145 => ?_) (fun c145 => ?_)
              · try simp only [jb_z, jb_nz] at c145
                refine jJ_iconst (pc := 152) dX3_goOnBehindPart_152 (by decide) ?_
                refine jJ_zret (pc := 153) dX3_goOnBehindPart_153 rfl (by decide) ?_
                first | (exfalso; omega) | exact ⟨by simp [goV, jb, *], by simp [goS, goR, *], rfl⟩
              · try simp only [jb_z, jb_nz] at c145
                refine jJ_iconst (pc := 148) dX3_goOnBehindPart_148 (by decide) ?_
                refine jJ_goto (pc := 149) (tgt := 153) dX3_goOnBehindPart_149 (by decide) ?_
                refine jJ_zret (pc := 153) dX3_goOnBehindPart_153 rfl (by decide) ?_
                first | (exfalso; omega) | exact ⟨by simp [goV, jb, *], by simp [goS, goR, *], rfl⟩
            · try simp only [jb_z, jb_nz] at c134
              refine jJ_iconst (pc := 137) dX3_goOnBehindPart_137 (by decide) ?_
              refine jJ_goto (pc := 138) (tgt := 142) dX3_goOnBehindPart_138 (by decide) ?_
              refine jJ_callVd (pc := 142) (as := [_]) dX3_goOnBehindPart_142 mX3_136 (jRcv_of (by assumption) rfl rfl) (Nat.le_of_ble_eq_true rfl) (jRm_ok (by omega) (by decide)) (c_Rd_startBlock (d := d - 1) h hs1 hs2 (by omega)) ?_
              try simp only [rdM_g1, rdM_g2, rdM_g3, rdM_g4, rdM_g5, rdM_g6, rdM_g7, rdM_g8, rdM_g9, rdM_g10, rdM_p1, rdM_p2, rdM_p3, rdM_p4, rdM_p5, rdM_p6, rdM_p7, rdM_p8, rdM_p9, rdM_p10, rdM_r, rdM_w, su_s, su_1_2, su_1_3, su_1_4, su_1_5, su_1_6, su_1_7, su_1_8, su_1_9, su_1_10, su_2_1, su_2_3, su_2_4, su_2_5, su_2_6, su_2_7, su_2_8, su_2_9, su_2_10, su_3_1, su_3_2, su_3_4, su_3_5, su_3_6, su_3_7, su_3_8, su_3_9, su_3_10, su_4_1, su_4_2, su_4_3, su_4_5, su_4_6, su_4_7, su_4_8, su_4_9, su_4_10, su_5_1, su_5_2, su_5_3, su_5_4, su_5_6, su_5_7, su_5_8, su_5_9, su_5_10, su_6_1, su_6_2, su_6_3, su_6_4, su_6_5, su_6_7, su_6_8, su_6_9, su_6_10, su_7_1, su_7_2, su_7_3, su_7_4, su_7_5, su_7_6, su_7_8, su_7_9, su_7_10, su_8_1, su_8_2, su_8_3, su_8_4, su_8_5, su_8_6, su_8_7, su_8_9, su_8_10, su_9_1, su_9_2, su_9_3, su_9_4, su_9_5, su_9_6, su_9_7, su_9_8, su_9_10, su_10_1, su_10_2, su_10_3, su_10_4, su_10_5, su_10_6, su_10_7, su_10_8, su_10_9]
              refine jJ_if_eq (pc := 145) (tgt := 152) dX3_goOnBehindPart_145 (by decide) (fun c145 => ?_) (fun c145 => ?_)
              · try simp only [jb_z, jb_nz] at c145
                refine jJ_iconst (pc := 152) dX3_goOnBehindPart_152 (by decide) ?_
                refine jJ_zret (pc := 153) dX3_goOnBehindPart_153 rfl (by decide) ?_
                first | (exfalso; omega) | exact ⟨by simp [goV, jb, *], by simp [goS, goR, *], rfl⟩
              · try simp only [jb_z, jb_nz] at c145
                refine jJ_iconst (pc := 148) dX3_goOnBehindPart_148 (by decide) ?_
                refine jJ_goto (pc := 149) (tgt := 153) dX3_goOnBehindPart_149 (by decide) ?_
                refine jJ_zret (pc := 153) dX3_goOnBehindPart_153 rfl (by decide) ?_
                first | (exfalso; omega) | exact ⟨by simp [goV, jb, *], by simp [goS, goR, *], rfl⟩
        · try simp only [jb_z, jb_nz] at c96
          refine jJ_aload_n (pc := 99) dX3_goOnBehindPart_99 rfl ?_
          refine jJ_aload_n (pc := 100) dX3_goOnBehindPart_100 rfl ?_
          refine jJ_geti (pc := 101) dX3_goOnBehindPart_101 fX3_45 rfl (by assumption) ?_
          try simp only [rdM_g1, rdM_g2, rdM_g3, rdM_g4, rdM_g5, rdM_g6, rdM_g7, rdM_g8, rdM_g9, rdM_g10, rdM_p1, rdM_p2, rdM_p3, rdM_p4, rdM_p5, rdM_p6, rdM_p7, rdM_p8, rdM_p9, rdM_p10, rdM_r, rdM_w, su_s, su_1_2, su_1_3, su_1_4, su_1_5, su_1_6, su_1_7, su_1_8, su_1_9, su_1_10, su_2_1, su_2_3, su_2_4, su_2_5, su_2_6, su_2_7, su_2_8, su_2_9, su_2_10, su_3_1, su_3_2, su_3_4, su_3_5, su_3_6, su_3_7, su_3_8, su_3_9, su_3_10, su_4_1, su_4_2, su_4_3, su_4_5, su_4_6, su_4_7, su_4_8, su_4_9, su_4_10, su_5_1, su_5_2, su_5_3, su_5_4, su_5_6, su_5_7, su_5_8, su_5_9, su_5_10, su_6_1, su_6_2, su_6_3, su_6_4, su_6_5, su_6_7, su_6_8, su_6_9, su_6_10, su_7_1, su_7_2, su_7_3, su_7_4, su_7_5, su_7_6, su_7_8, su_7_9, su_7_10, su_8_1, su_8_2, su_8_3, su_8_4, su_8_5, su_8_6, su_8_7, su_8_9, su_8_10, su_9_1, su_9_2, su_9_3, su_9_4, su_9_5, su_9_6, su_9_7, su_9_8, su_9_10, su_10_1, su_10_2, su_10_3, su_10_4, su_10_5, su_10_6, su_10_7, su_10_8, su_10_9]
          refine jJ_bipush (pc := 104) dX3_goOnBehindPart_104 (by decide) ?_
          refine jJ_icmp_ne (pc := 106) (tgt := 113) dX3_goOnBehindPart_106 (by decide) (fun c106 => ?_) (fun c106 => ?_)
          · try simp only [jb_z, jb_nz] at c106
            refine jJ_iconst (pc := 113) dX3_goOnBehindPart_113 (by decide) ?_
            refine jJ_iconst (pc := 114) dX3_goOnBehindPart_114 (by decide) ?_
            refine jJ_callVd (pc := 115) (as := [_, _]) dX3_goOnBehindPart_115 mX3_120 (jRcv_of (by assumption) rfl rfl) (Nat.le_of_ble_eq_true rfl) (jRm_ok (by omega) (by decide)) (c_Rd_expect (d := d - 1) h (by decide)) ?_
            try simp only [rdM_g1, rdM_g2, rdM_g3, rdM_g4, rdM_g5, rdM_g6, rdM_g7, rdM_g8, rdM_g9, rdM_g10, rdM_p1, rdM_p2, rdM_p3, rdM_p4, rdM_p5, rdM_p6, rdM_p7, rdM_p8, rdM_p9, rdM_p10, rdM_r, rdM_w, su_s, su_1_2, su_1_3, su_1_4, su_1_5, su_1_6, su_1_7, su_1_8, su_1_9, su_1_10, su_2_1, su_2_3, su_2_4, su_2_5, su_2_6, su_2_7, su_2_8, su_2_9, su_2_10, su_3_1, su_3_2, su_3_4, su_3_5, su_3_6, su_3_7, su_3_8, su_3_9, su_3_10, su_4_1, su_4_2, su_4_3, su_4_5, su_4_6, su_4_7, su_4_8, su_4_9, su_4_10, su_5_1, su_5_2, su_5_3, su_5_4, su_5_6, su_5_7, su_5_8, su_5_9, su_5_10, su_6_1, su_6_2, su_6_3, su_6_4, su_6_5, su_6_7, su_6_8, su_6_9, su_6_10, su_7_1, su_7_2, su_7_3, su_7_4, su_7_5, su_7_6, su_7_8, su_7_9, su_7_10, su_8_1, su_8_2, su_8_3, su_8_4, su_8_5, su_8_6, su_8_7, su_8_9, su_8_10, su_9_1, su_9_2, su_9_3, su_9_4, su_9_5, su_9_6, su_9_7, su_9_8, su_9_10, su_10_1, su_10_2, su_10_3, su_10_4, su_10_5, su_10_6, su_10_7, su_10_8, su_10_9]
            refine jJ_zret (pc := 118) dX3_goOnBehindPart_118 rfl (by decide) ?_
            first | (exfalso; omega) | exact ⟨by simp [goV, jb, *], by simp [goS, goR, *], rfl⟩
          · try simp only [jb_z, jb_nz] at c106
            refine jJ_iconst (pc := 109) dX3_goOnBehindPart_109 (by decide) ?_
            refine jJ_goto (pc := 110) (tgt := 114) dX3_goOnBehindPart_110 (by decide) ?_
            refine jJ_iconst (pc := 114) dX3_goOnBehindPart_114 (by decide) ?_
            refine jJ_callVd (pc := 115) (as := [_, _]) dX3_goOnBehindPart_115 mX3_120 (jRcv_of (by assumption) rfl rfl) (Nat.le_of_ble_eq_true rfl) (jRm_ok (by omega) (by decide)) (c_Rd_expect (d := d - 1) h (by decide)) ?_
            try simp only [rdM_g1, rdM_g2, rdM_g3, rdM_g4, rdM_g5, rdM_g6, rdM_g7, rdM_g8, rdM_g9, rdM_g10, rdM_p1, rdM_p2, rdM_p3, rdM_p4, rdM_p5, rdM_p6, rdM_p7, rdM_p8, rdM_p9, rdM_p10, rdM_r, rdM_w, su_s, su_1_2, su_1_3, su_1_4, su_1_5, su_1_6, su_1_7, su_1_8, su_1_9, su_1_10, su_2_1, su_2_3, su_2_4, su_2_5, su_2_6, su_2_7, su_2_8, su_2_9, su_2_10, su_3_1, su_3_2, su_3_4, su_3_5, su_3_6, su_3_7, su_3_8, su_3_9, su_3_10, su_4_1, su_4_2, su_4_3, su_4_5, su_4_6, su_4_7, su_4_8, su_4_9, su_4_10, su_5_1, su_5_2, su_5_3, su_5_4, su_5_6, su_5_7, su_5_8, su_5_9, su_5_10, su_6_1, su_6_2, su_6_3, su_6_4, su_6_5, su_6_7, su_6_8, su_6_9, su_6_10, su_7_1, su_7_2, su_7_3, su_7_4, su_7_5, su_7_6, su_7_8, su_7_9, su_7_10, su_8_1, su_8_2, su_8_3, su_8_4, su_8_5, su_8_6, su_8_7, su_8_9, su_8_10, su_9_1, su_9_2, su_9_3, su_9_4, su_9_5, su_9_6, su_9_7, su_9_8, su_9_10, su_10_1, su_10_2, su_10_3, su_10_4, su_10_5, su_10_6, su_10_7, su_10_8, su_10_9]
            refine jJ_zret (pc := 118) dX3_goOnBehindPart_118 rfl (by decide) ?_
            first | (exfalso; omega) | exact ⟨by simp [goV, jb, *], by simp [goS, goR, *], rfl⟩
      · try simp only [jb_z, jb_nz] at c52
        refine jJ_aload_n (pc := 55) dX3_goOnBehindPart_55 rfl ?_
        refine jJ_geti (pc := 56) dX3_goOnBehindPart_56 fX3_45 rfl (by assumption) ?_
        try simp only [rdM_g1, rdM_g2, rdM_g3, rdM_g4, rdM_g5, rdM_g6, rdM_g7, rdM_g8, rdM_g9, rdM_g10, rdM_p1, rdM_p2, rdM_p3, rdM_p4, rdM_p5, rdM_p6, rdM_p7, rdM_p8, rdM_p9, rdM_p10, rdM_r, rdM_w, su_s, su_1_2, su_1_3, su_1_4, su_1_5, su_1_6, su_1_7, su_1_8, su_1_9, su_1_10, su_2_1, su_2_3, su_2_4, su_2_5, su_2_6, su_2_7, su_2_8, su_2_9, su_2_10, su_3_1, su_3_2, su_3_4, su_3_5, su_3_6, su_3_7, su_3_8, su_3_9, su_3_10, su_4_1, su_4_2, su_4_3, su_4_5, su_4_6, su_4_7, su_4_8, su_4_9, su_4_10, su_5_1, su_5_2, su_5_3, su_5_4, su_5_6, su_5_7, su_5_8, su_5_9, su_5_10, su_6_1, su_6_2, su_6_3, su_6_4, su_6_5, su_6_7, su_6_8, su_6_9, su_6_10, su_7_1, su_7_2, su_7_3, su_7_4, su_7_5, su_7_6, su_7_8, su_7_9, su_7_10, su_8_1, su_8_2, su_8_3, su_8_4, su_8_5, su_8_6, su_8_7, su_8_9, su_8_10, su_9_1, su_9_2, su_9_3, su_9_4, su_9_5, su_9_6, su_9_7, su_9_8, su_9_10, su_10_1, su_10_2, su_10_3, su_10_4, su_10_5, su_10_6, su_10_7, su_10_8, su_10_9]
        refine jJ_bipush (pc := 59) dX3_goOnBehindPart_59 (by decide) ?_
        refine jJ_icmp_ne (pc := 61) (tgt := 71) dX3_goOnBehindPart_61 (by decide) (fun c61 => ?_) (fun c61 => ?_)
        · try simp only [jb_z, jb_nz] at c61
          refine jJ_aload_n (pc := 71) dX3_goOnBehindPart_71 rfl ?_
          refine jJ_aload_n (pc := 72) dX3_goOnBehindPart_72 rfl ?_
          refine jJ_geti (pc := 73) dX3_goOnBehindPart_73 fX3_45 rfl (by assumption) ?_
          try simp only [rdM_g1, rdM_g2, rdM_g3, rdM_g4, rdM_g5, rdM_g6, rdM_g7, rdM_g8, rdM_g9, rdM_g10, rdM_p1, rdM_p2, rdM_p3, rdM_p4, rdM_p5, rdM_p6, rdM_p7, rdM_p8, rdM_p9, rdM_p10, rdM_r, rdM_w, su_s, su_1_2, su_1_3, su_1_4, su_1_5, su_1_6, su_1_7, su_1_8, su_1_9, su_1_10, su_2_1, su_2_3, su_2_4, su_2_5, su_2_6, su_2_7, su_2_8, su_2_9, su_2_10, su_3_1, su_3_2, su_3_4, su_3_5, su_3_6, su_3_7, su_3_8, su_3_9, su_3_10, su_4_1, su_4_2, su_4_3, su_4_5, su_4_6, su_4_7, su_4_8, su_4_9, su_4_10, su_5_1, su_5_2, su_5_3, su_5_4, su_5_6, su_5_7, su_5_8, su_5_9, su_5_10, su_6_1, su_6_2, su_6_3, su_6_4, su_6_5, su_6_7, su_6_8, su_6_9, su_6_10, su_7_1, su_7_2, su_7_3, su_7_4, su_7_5, su_7_6, su_7_8, su_7_9, su_7_10, su_8_1, su_8_2, su_8_3, su_8_4, su_8_5, su_8_6, su_8_7, su_8_9, su_8_10, su_9_1, su_9_2, su_9_3, su_9_4, su_9_5, su_9_6, su_9_7, su_9_8, su_9_10, su_10_1, su_10_2, su_10_3, su_10_4, su_10_5, su_10_6, su_10_7, su_10_8, su_10_9]
          refine jJ_bipush (pc := 76) dX3_goOnBehindPart_76 (by decide) ?_
          refine jJ_icmp_ne (pc := 78) (tgt := 85) dX3_goOnBehindPart_78 (by decide) (fun c78 => ?_) (fun c78 => ?_)
          · try simp only [jb_z, jb_nz] at c78
            refine jJ_iconst (pc := 85) dX3_goOnBehindPart_85 (by decide) ?_
            refine jJ_bipush (pc := 86) dX3_goOnBehindPart_86 (by decide) ?_
            refine jJ_callVd (pc := 88) (as := [_, _]) dX3_goOnBehindPart_88 mX3_120 (jRcv_of (by assumption) rfl rfl) (Nat.le_of_ble_eq_true rfl) (jRm_ok (by omega) (by decide)) (c_Rd_expect (d := d - 1) h (by decide)) ?_
            try simp only [rdM_g1, rdM_g2, rdM_g3, rdM_g4, rdM_g5, rdM_g6, rdM_g7, rdM_g8, rdM_g9, rdM_g10, rdM_p1, rdM_p2, rdM_p3, rdM_p4, rdM_p5, rdM_p6, rdM_p7, rdM_p8, rdM_p9, rdM_p10, rdM_r, rdM_w, su_s, su_1_2, su_1_3, su_1_4, su_1_5, su_1_6, su_1_7, su_1_8, su_1_9, su_1_10, su_2_1, su_2_3, su_2_4, su_2_5, su_2_6, su_2_7, su_2_8, su_2_9, su_2_10, su_3_1, su_3_2, su_3_4, su_3_5, su_3_6, su_3_7, su_3_8, su_3_9, su_3_10, su_4_1, su_4_2, su_4_3, su_4_5, su_4_6, su_4_7, su_4_8, su_4_9, su_4_10, su_5_1, su_5_2, su_5_3, su_5_4, su_5_6, su_5_7, su_5_8, su_5_9, su_5_10, su_6_1, su_6_2, su_6_3, su_6_4, su_6_5, su_6_7, su_6_8, su_6_9, su_6_10, su_7_1, su_7_2, su_7_3, su_7_4, su_7_5, su_7_6, su_7_8, su_7_9, su_7_10, su_8_1, su_8_2, su_8_3, su_8_4, su_8_5, su_8_6, su_8_7, su_8_9, su_8_10, su_9_1, su_9_2, su_9_3, su_9_4, su_9_5, su_9_6, su_9_7, su_9_8, su_9_10, su_10_1, su_10_2, su_10_3, su_10_4, su_10_5, su_10_6, su_10_7, su_10_8, su_10_9]
            refine jJ_zret (pc := 91) dX3_goOnBehindPart_91 rfl (by decide) ?_
            first | (exfalso; omega) | exact ⟨by simp [goV, jb, *], by simp [goS, goR, *], rfl⟩
          · try simp only [jb_z, jb_nz] at c78
            refine jJ_iconst (pc := 81) dX3_goOnBehindPart_81 (by decide) ?_
            refine jJ_goto (pc := 82) (tgt := 86) dX3_goOnBehindPart_82 (by decide) ?_
            refine jJ_bipush (pc := 86) dX3_goOnBehindPart_86 (by decide) ?_
            refine jJ_callVd (pc := 88) (as := [_, _]) dX3_goOnBehindPart_88 mX3_120 (jRcv_of (by assumption) rfl rfl) (Nat.le_of_ble_eq_true rfl) (jRm_ok (by omega) (by decide)) (c_Rd_expect (d := d - 1) h (by decide)) ?_
            try simp only [rdM_g1, rdM_g2, rdM_g3, rdM_g4, rdM_g5, rdM_g6, rdM_g7, rdM_g8, rdM_g9, rdM_g10, rdM_p1, rdM_p2, rdM_p3, rdM_p4, rdM_p5, rdM_p6, rdM_p7, rdM_p8, rdM_p9, rdM_p10, rdM_r, rdM_w, su_s, su_1_2, su_1_3, su_1_4, su_1_5, su_1_6, su_1_7, su_1_8, su_1_9, su_1_10, su_2_1, su_2_3, su_2_4, su_2_5, su_2_6, su_2_7, su_2_8, su_2_9, su_2_10, su_3_1, su_3_2, su_3_4, su_3_5, su_3_6, su_3_7, su_3_8, su_3_9, su_3_10, su_4_1, su_4_2, su_4_3, su_4_5, su_4_6, su_4_7, su_4_8, su_4_9, su_4_10, su_5_1, su_5_2, su_5_3, su_5_4, su_5_6, su_5_7, su_5_8, su_5_9, su_5_10, su_6_1, su_6_2, su_6_3, su_6_4, su_6_5, su_6_7, su_6_8, su_6_9, su_6_10, su_7_1, su_7_2, su_7_3, su_7_4, su_7_5, su_7_6, su_7_8, su_7_9, su_7_10, su_8_1, su_8_2, su_8_3, su_8_4, su_8_5, su_8_6, su_8_7, su_8_9, su_8_10, su_9_1, su_9_2, su_9_3, su_9_4, su_9_5, su_9_6, su_9_7, su_9_8, su_9_10, su_10_1, su_10_2, su_10_3, su_10_4, su_10_5, su_10_6, su_10_7, su_10_8, su_10_9]
            refine jJ_zret (pc := 91) dX3_goOnBehindPart_91 rfl (by decide) ?_
            first | (exfalso; omega) | exact ⟨by simp [goV, jb, *], by simp [goS, goR, *], rfl⟩
        · try simp only [jb_z, jb_nz] at c61
          refine jJ_aload_n (pc := 64) dX3_goOnBehindPart_64 rfl ?_
          refine jJ_callVd (pc := 65) (as := []) dX3_goOnBehindPart_65 mX3_127 (jRcv_of (by assumption) rfl rfl) (Nat.le_of_ble_eq_true rfl) (jRm_ok (by omega) (by decide)) (c_Rd_endBracket (d := d - 1) h hs1 (by omega)) ?_
          try simp only [rdM_g1, rdM_g2, rdM_g3, rdM_g4, rdM_g5, rdM_g6, rdM_g7, rdM_g8, rdM_g9, rdM_g10, rdM_p1, rdM_p2, rdM_p3, rdM_p4, rdM_p5, rdM_p6, rdM_p7, rdM_p8, rdM_p9, rdM_p10, rdM_r, rdM_w, su_s, su_1_2, su_1_3, su_1_4, su_1_5, su_1_6, su_1_7, su_1_8, su_1_9, su_1_10, su_2_1, su_2_3, su_2_4, su_2_5, su_2_6, su_2_7, su_2_8, su_2_9, su_2_10, su_3_1, su_3_2, su_3_4, su_3_5, su_3_6, su_3_7, su_3_8, su_3_9, su_3_10, su_4_1, su_4_2, su_4_3, su_4_5, su_4_6, su_4_7, su_4_8, su_4_9, su_4_10, su_5_1, su_5_2, su_5_3, su_5_4, su_5_6, su_5_7, su_5_8, su_5_9, su_5_10, su_6_1, su_6_2, su_6_3, su_6_4, su_6_5, su_6_7, su_6_8, su_6_9, su_6_10, su_7_1, su_7_2, su_7_3, su_7_4, su_7_5, su_7_6, su_7_8, su_7_9, su_7_10, su_8_1, su_8_2, su_8_3, su_8_4, su_8_5, su_8_6, su_8_7, su_8_9, su_8_10, su_9_1, su_9_2, su_9_3, su_9_4, su_9_5, su_9_6, su_9_7, su_9_8, su_9_10, su_10_1, su_10_2, su_10_3, su_10_4, su_10_5, su_10_6, su_10_7, su_10_8, su_10_9]
          refine jJ_goto (pc := 68) (tgt := 91) dX3_goOnBehindPart_68 (by decide) ?_
          refine jJ_zret (pc := 91) dX3_goOnBehindPart_91 rfl (by decide) ?_
          first | (exfalso; omega) | exact ⟨by simp [goV, jb, *], by simp [goS, goR, *], rfl⟩
    · try simp only [jb_z, jb_nz] at c22
      refine jJ_aload_n (pc := 25) dX3_goOnBehindPart_25 rfl ?_
      refine jJ_geti (pc := 26) dX3_goOnBehindPart_26 fX3_45 rfl (by assumption) ?_
      try simp only [rdM_g1, rdM_g2, rdM_g3, rdM_g4, rdM_g5, rdM_g6, rdM_g7, rdM_g8, rdM_g9, rdM_g10, rdM_p1, rdM_p2, rdM_p3, rdM_p4, rdM_p5, rdM_p6, rdM_p7, rdM_p8, rdM_p9, rdM_p10, rdM_r, rdM_w, su_s, su_1_2, su_1_3, su_1_4, su_1_5, su_1_6, su_1_7, su_1_8, su_1_9, su_1_10, su_2_1, su_2_3, su_2_4, su_2_5, su_2_6, su_2_7, su_2_8, su_2_9, su_2_10, su_3_1, su_3_2, su_3_4, su_3_5, su_3_6, su_3_7, su_3_8, su_3_9, su_3_10, su_4_1, su_4_2, su_4_3, su_4_5, su_4_6, su_4_7, su_4_8, su_4_9, su_4_10, su_5_1, su_5_2, su_5_3, su_5_4, su_5_6, su_5_7, su_5_8, su_5_9, su_5_10, su_6_1, su_6_2, su_6_3, su_6_4, su_6_5, su_6_7, su_6_8, su_6_9, su_6_10, su_7_1, su_7_2, su_7_3, su_7_4, su_7_5, su_7_6, su_7_8, su_7_9, su_7_10, su_8_1, su_8_2, su_8_3, su_8_4, su_8_5, su_8_6, su_8_7, su_8_9, su_8_10, su_9_1, su_9_2, su_9_3, su_9_4, su_9_5, su_9_6, su_9_7, su_9_8, su_9_10, su_10_1, su_10_2, su_10_3, su_10_4, su_10_5, su_10_6, su_10_7, su_10_8, su_10_9]
      refine jJ_bipush (pc := 29) dX3_goOnBehindPart_29 (by decide) ?_
      refine jJ_icmp_ne (pc := 31) (tgt := 45) dX3_goOnBehindPart_31 (by decide) (fun c31 => ?_) (fun c31 => ?_)
      · try simp only [jb_z, jb_nz] at c31
        refine jJ_iconst (pc := 45) dX3_goOnBehindPart_45 (by decide) ?_
        refine jJ_zret (pc := 46) dX3_goOnBehindPart_46 rfl (by decide) ?_
        first | (exfalso; omega) | exact ⟨by simp [goV, jb, *], by simp [goS, goR, *], rfl⟩
      · try simp only [jb_z, jb_nz] at c31
        refine jJ_aload_n (pc := 34) dX3_goOnBehindPart_34 rfl ?_
        refine jJ_callVd (pc := 35) (as := []) dX3_goOnBehindPart_35 mX3_127 (jRcv_of (by assumption) rfl rfl) (Nat.le_of_ble_eq_true rfl) (jRm_ok (by omega) (by decide)) (c_Rd_endBracket (d := d - 1) h hs1 (by omega)) ?_
        try simp only [rdM_g1, rdM_g2, rdM_g3, rdM_g4, rdM_g5, rdM_g6, rdM_g7, rdM_g8, rdM_g9, rdM_g10, rdM_p1, rdM_p2, rdM_p3, rdM_p4, rdM_p5, rdM_p6, rdM_p7, rdM_p8, rdM_p9, rdM_p10, rdM_r, rdM_w, su_s, su_1_2, su_1_3, su_1_4, su_1_5, su_1_6, su_1_7, su_1_8, su_1_9, su_1_10, su_2_1, su_2_3, su_2_4, su_2_5, su_2_6, su_2_7, su_2_8, su_2_9, su_2_10, su_3_1, su_3_2, su_3_4, su_3_5, su_3_6, su_3_7, su_3_8, su_3_9, su_3_10, su_4_1, su_4_2, su_4_3, su_4_5, su_4_6, su_4_7, su_4_8, su_4_9, su_4_10, su_5_1, su_5_2, su_5_3, su_5_4, su_5_6, su_5_7, su_5_8, su_5_9, su_5_10, su_6_1, su_6_2, su_6_3, su_6_4, su_6_5, su_6_7, su_6_8, su_6_9, su_6_10, su_7_1, su_7_2, su_7_3, su_7_4, su_7_5, su_7_6, su_7_8, su_7_9, su_7_10, su_8_1, su_8_2, su_8_3, su_8_4, su_8_5, su_8_6, su_8_7, su_8_9, su_8_10, su_9_1, su_9_2, su_9_3, su_9_4, su_9_5, su_9_6, su_9_7, su_9_8, su_9_10, su_10_1, su_10_2, su_10_3, su_10_4, su_10_5, su_10_6, su_10_7, su_10_8, su_10_9]
        refine jJ_if_eq (pc := 38) (tgt := 45) dX3_goOnBehindPart_38 (by decide) (fun c38 => ?_) (fun c38 => ?_)
        · try simp only [jb_z, jb_nz] at c38
          refine jJ_iconst (pc := 45) dX3_goOnBehindPart_45 (by decide) ?_
          refine jJ_zret (pc := 46) dX3_goOnBehindPart_46 rfl (by decide) ?_
          first | (exfalso; omega) | exact ⟨by simp [goV, jb, *], by simp [goS, goR, *], rfl⟩
        · try simp only [jb_z, jb_nz] at c38
          refine jJ_iconst (pc := 41) dX3_goOnBehindPart_41 (by decide) ?_
          refine jJ_goto (pc := 42) (tgt := 46) dX3_goOnBehindPart_42 (by decide) ?_
          refine jJ_zret (pc := 46) dX3_goOnBehindPart_46 rfl (by decide) ?_
          first | (exfalso; omega) | exact ⟨by simp [goV, jb, *], by simp [goS, goR, *], rfl⟩
  · try simp only [jb_z, jb_nz] at c7
    refine jJ_aload_n (pc := 10) dX3_goOnBehindPart_10 rfl ?_
    refine jJ_bipush (pc := 11) dX3_goOnBehindPart_11 (by decide) ?_
    refine jJ_puti (pc := 13) dX3_goOnBehindPart_13 fX3_29w rfl ⟨rfl, rfl⟩ (by assumption) ?_
    try simp only [rdM_g1, rdM_g2, rdM_g3, rdM_g4, rdM_g5, rdM_g6, rdM_g7, rdM_g8, rdM_g9, rdM_g10, rdM_p1, rdM_p2, rdM_p3, rdM_p4, rdM_p5, rdM_p6, rdM_p7, rdM_p8, rdM_p9, rdM_p10, rdM_r, rdM_w, su_s, su_1_2, su_1_3, su_1_4, su_1_5, su_1_6, su_1_7, su_1_8, su_1_9, su_1_10, su_2_1, su_2_3, su_2_4, su_2_5, su_2_6, su_2_7, su_2_8, su_2_9, su_2_10, su_3_1, su_3_2, su_3_4, su_3_5, su_3_6, su_3_7, su_3_8, su_3_9, su_3_10, su_4_1, su_4_2, su_4_3, su_4_5, su_4_6, su_4_7, su_4_8, su_4_9, su_4_10, su_5_1, su_5_2, su_5_3, su_5_4, su_5_6, su_5_7, su_5_8, su_5_9, su_5_10, su_6_1, su_6_2, su_6_3, su_6_4, su_6_5, su_6_7, su_6_8, su_6_9, su_6_10, su_7_1, su_7_2, su_7_3, su_7_4, su_7_5, su_7_6, su_7_8, su_7_9, su_7_10, su_8_1, su_8_2, su_8_3, su_8_4, su_8_5, su_8_6, su_8_7, su_8_9, su_8_10, su_9_1, su_9_2, su_9_3, su_9_4, su_9_5, su_9_6, su_9_7, su_9_8, su_9_10, su_10_1, su_10_2, su_10_3, su_10_4, su_10_5, su_10_6, su_10_7, su_10_8, su_10_9]
    refine jJ_iconst (pc := 16) dX3_goOnBehindPart_16 (by decide) ?_
    refine jJ_zret (pc := 17) dX3_goOnBehindPart_17 rfl (by decide) ?_
    first | (exfalso; omega) | exact ⟨by simp [goV, jb, *], by simp [goS, goR, *], rfl⟩
def stdV (s r : Nat → Int) : Int := if s 4 = 2 then jb (s 10 = 61) else if s 4 = 3 then jb (s 10 = 1) else if s 4 = 4 then jb (s 10 = 40) else if s 4 = 5 then (if s 10 = 41 then 1 else sptV s) else if s 4 = 6 then sptV s else if s 4 = 7 then goV s r else if s 4 = 8 then jb (s 10 = 59) else if s 4 = 9 then jb (s 10 = 123) else stmV s r
def stdS (s r : Nat → Int) : Nat → Int := if s 4 = 2 then (if s 10 = 61 then su s 4 6 else s) else if s 4 = 3 then (if s 10 = 1 then su s 4 4 else s) else if s 4 = 4 then (if s 10 = 40 then pushS (su s 4 5) else s) else if s 4 = 5 then (if s 10 = 41 then endBrS s r else sptS s) else if s 4 = 6 then sptS s else if s 4 = 7 then goS s r else if s 4 = 8 then (if s 10 = 59 then su s 4 0 else s) else if s 4 = 9 then (if s 10 = 123 then stBlS s else s) else stmS s r
def stdR (s r : Nat → Int) : Nat → Int := if s 4 = 4 then (if s 10 = 40 then pushR (su s 4 5) r 1 else r) else if s 4 = 5 then (if s 10 = 41 then r else sptR s r) else if s 4 = 6 then sptR s r else if s 4 = 7 then goR s r else if s 4 = 9 then (if s 10 = 123 then stBlR s r 3 else r) else r
theorem c_Rd_stands (h : RdL E P rd op) (hs : RdOk s) (hd : 3 ≤ d) : jC E yX3_stands cX3_stands 1 (some .boolean) d [jp rd] (rdM I rd op s r) P (jD (some (ji (stdV s r))) (rdM I rd op (stdS s r) (stdR s r)) P) := by
  have h0 := h.1
  have hs' := hs
  obtain ⟨hs1, hs2, hs6⟩ := hs
  refine jC_intro (by decide +kernel) (by simp [jc, va_rf, Value.category]) (Nat.le_of_ble_eq_true rfl) ?_
  refine jJ_aload_n (pc := 0) dX3_stands_0 rfl ?_
  refine jJ_geti (pc := 1) dX3_stands_1 fX3_29 rfl (by assumption) ?_
  try simp only [rdM_g1, rdM_g2, rdM_g3, rdM_g4, rdM_g5, rdM_g6, rdM_g7, rdM_g8, rdM_g9, rdM_g10, rdM_p1, rdM_p2, rdM_p3, rdM_p4, rdM_p5, rdM_p6, rdM_p7, rdM_p8, rdM_p9, rdM_p10, rdM_r, rdM_w, su_s, su_1_2, su_1_3, su_1_4, su_1_5, su_1_6, su_1_7, su_1_8, su_1_9, su_1_10, su_2_1, su_2_3, su_2_4, su_2_5, su_2_6, su_2_7, su_2_8, su_2_9, su_2_10, su_3_1, su_3_2, su_3_4, su_3_5, su_3_6, su_3_7, su_3_8, su_3_9, su_3_10, su_4_1, su_4_2, su_4_3, su_4_5, su_4_6, su_4_7, su_4_8, su_4_9, su_4_10, su_5_1, su_5_2, su_5_3, su_5_4, su_5_6, su_5_7, su_5_8, su_5_9, su_5_10, su_6_1, su_6_2, su_6_3, su_6_4, su_6_5, su_6_7, su_6_8, su_6_9, su_6_10, su_7_1, su_7_2, su_7_3, su_7_4, su_7_5, su_7_6, su_7_8, su_7_9, su_7_10, su_8_1, su_8_2, su_8_3, su_8_4, su_8_5, su_8_6, su_8_7, su_8_9, su_8_10, su_9_1, su_9_2, su_9_3, su_9_4, su_9_5, su_9_6, su_9_7, su_9_8, su_9_10, su_10_1, su_10_2, su_10_3, su_10_4, su_10_5, su_10_6, su_10_7, su_10_8, su_10_9]
  by_cases hh : 2 ≤ s 4 ∧ s 4 ≤ 9
  · have h8 : s 4 = 2 ∨ s 4 = 3 ∨ s 4 = 4 ∨ s 4 = 5 ∨ s 4 = 6 ∨ s 4 = 7 ∨ s 4 = 8 ∨ s 4 = 9 := by omega
    rcases h8 with q | q | q | q | q | q | q | q
    · rw [q]
      refine jJ_tableIn (pc := 4) (tgt := 52) dX3_stands_4 (by decide) (off := 48) (by decide) (by decide) ?_
      refine jJ_aload_n (pc := 52) dX3_stands_52 rfl ?_
      refine jJ_aload_n (pc := 53) dX3_stands_53 rfl ?_
      refine jJ_geti (pc := 54) dX3_stands_54 fX3_45 rfl (by assumption) ?_
      try simp only [rdM_g1, rdM_g2, rdM_g3, rdM_g4, rdM_g5, rdM_g6, rdM_g7, rdM_g8, rdM_g9, rdM_g10, rdM_p1, rdM_p2, rdM_p3, rdM_p4, rdM_p5, rdM_p6, rdM_p7, rdM_p8, rdM_p9, rdM_p10, rdM_r, rdM_w, su_s, su_1_2, su_1_3, su_1_4, su_1_5, su_1_6, su_1_7, su_1_8, su_1_9, su_1_10, su_2_1, su_2_3, su_2_4, su_2_5, su_2_6, su_2_7, su_2_8, su_2_9, su_2_10, su_3_1, su_3_2, su_3_4, su_3_5, su_3_6, su_3_7, su_3_8, su_3_9, su_3_10, su_4_1, su_4_2, su_4_3, su_4_5, su_4_6, su_4_7, su_4_8, su_4_9, su_4_10, su_5_1, su_5_2, su_5_3, su_5_4, su_5_6, su_5_7, su_5_8, su_5_9, su_5_10, su_6_1, su_6_2, su_6_3, su_6_4, su_6_5, su_6_7, su_6_8, su_6_9, su_6_10, su_7_1, su_7_2, su_7_3, su_7_4, su_7_5, su_7_6, su_7_8, su_7_9, su_7_10, su_8_1, su_8_2, su_8_3, su_8_4, su_8_5, su_8_6, su_8_7, su_8_9, su_8_10, su_9_1, su_9_2, su_9_3, su_9_4, su_9_5, su_9_6, su_9_7, su_9_8, su_9_10, su_10_1, su_10_2, su_10_3, su_10_4, su_10_5, su_10_6, su_10_7, su_10_8, su_10_9]
      refine jJ_bipush (pc := 57) dX3_stands_57 (by decide) ?_
      refine jJ_icmp_ne (pc := 59) (tgt := 66) dX3_stands_59 (by decide) (fun c59 => ?_) (fun c59 => ?_)
      · refine jJ_iconst (pc := 66) dX3_stands_66 (by decide) ?_
        refine jJ_bipush (pc := 67) dX3_stands_67 (by decide) ?_
        refine jJ_callVd (pc := 69) (as := [_, _]) dX3_stands_69 mX3_120 (jRcv_of (by assumption) rfl rfl) (Nat.le_of_ble_eq_true rfl) (jRm_ok (by omega) (by decide)) (c_Rd_expect (d := d - 1) h (by decide)) ?_
        try simp only [rdM_g1, rdM_g2, rdM_g3, rdM_g4, rdM_g5, rdM_g6, rdM_g7, rdM_g8, rdM_g9, rdM_g10, rdM_p1, rdM_p2, rdM_p3, rdM_p4, rdM_p5, rdM_p6, rdM_p7, rdM_p8, rdM_p9, rdM_p10, rdM_r, rdM_w, su_s, su_1_2, su_1_3, su_1_4, su_1_5, su_1_6, su_1_7, su_1_8, su_1_9, su_1_10, su_2_1, su_2_3, su_2_4, su_2_5, su_2_6, su_2_7, su_2_8, su_2_9, su_2_10, su_3_1, su_3_2, su_3_4, su_3_5, su_3_6, su_3_7, su_3_8, su_3_9, su_3_10, su_4_1, su_4_2, su_4_3, su_4_5, su_4_6, su_4_7, su_4_8, su_4_9, su_4_10, su_5_1, su_5_2, su_5_3, su_5_4, su_5_6, su_5_7, su_5_8, su_5_9, su_5_10, su_6_1, su_6_2, su_6_3, su_6_4, su_6_5, su_6_7, su_6_8, su_6_9, su_6_10, su_7_1, su_7_2, su_7_3, su_7_4, su_7_5, su_7_6, su_7_8, su_7_9, su_7_10, su_8_1, su_8_2, su_8_3, su_8_4, su_8_5, su_8_6, su_8_7, su_8_9, su_8_10, su_9_1, su_9_2, su_9_3, su_9_4, su_9_5, su_9_6, su_9_7, su_9_8, su_9_10, su_10_1, su_10_2, su_10_3, su_10_4, su_10_5, su_10_6, su_10_7, su_10_8, su_10_9]
        refine jJ_zret (pc := 72) dX3_stands_72 rfl (by decide) ?_
        exact ⟨by simp [stdV, jb, *], by simp [stdS, stdR, *], rfl⟩
      · refine jJ_iconst (pc := 62) dX3_stands_62 (by decide) ?_
        refine jJ_goto (pc := 63) (tgt := 67) dX3_stands_63 (by decide) ?_
        refine jJ_bipush (pc := 67) dX3_stands_67 (by decide) ?_
        refine jJ_callVd (pc := 69) (as := [_, _]) dX3_stands_69 mX3_120 (jRcv_of (by assumption) rfl rfl) (Nat.le_of_ble_eq_true rfl) (jRm_ok (by omega) (by decide)) (c_Rd_expect (d := d - 1) h (by decide)) ?_
        try simp only [rdM_g1, rdM_g2, rdM_g3, rdM_g4, rdM_g5, rdM_g6, rdM_g7, rdM_g8, rdM_g9, rdM_g10, rdM_p1, rdM_p2, rdM_p3, rdM_p4, rdM_p5, rdM_p6, rdM_p7, rdM_p8, rdM_p9, rdM_p10, rdM_r, rdM_w, su_s, su_1_2, su_1_3, su_1_4, su_1_5, su_1_6, su_1_7, su_1_8, su_1_9, su_1_10, su_2_1, su_2_3, su_2_4, su_2_5, su_2_6, su_2_7, su_2_8, su_2_9, su_2_10, su_3_1, su_3_2, su_3_4, su_3_5, su_3_6, su_3_7, su_3_8, su_3_9, su_3_10, su_4_1, su_4_2, su_4_3, su_4_5, su_4_6, su_4_7, su_4_8, su_4_9, su_4_10, su_5_1, su_5_2, su_5_3, su_5_4, su_5_6, su_5_7, su_5_8, su_5_9, su_5_10, su_6_1, su_6_2, su_6_3, su_6_4, su_6_5, su_6_7, su_6_8, su_6_9, su_6_10, su_7_1, su_7_2, su_7_3, su_7_4, su_7_5, su_7_6, su_7_8, su_7_9, su_7_10, su_8_1, su_8_2, su_8_3, su_8_4, su_8_5, su_8_6, su_8_7, su_8_9, su_8_10, su_9_1, su_9_2, su_9_3, su_9_4, su_9_5, su_9_6, su_9_7, su_9_8, su_9_10, su_10_1, su_10_2, su_10_3, su_10_4, su_10_5, su_10_6, su_10_7, su_10_8, su_10_9]
        refine jJ_zret (pc := 72) dX3_stands_72 rfl (by decide) ?_
        exact ⟨by simp [stdV, jb, *], by simp [stdS, stdR, *], rfl⟩
    · rw [q]
      refine jJ_tableIn (pc := 4) (tgt := 73) dX3_stands_4 (by decide) (off := 69) (by decide) (by decide) ?_
      refine jJ_aload_n (pc := 73) dX3_stands_73 rfl ?_
      refine jJ_aload_n (pc := 74) dX3_stands_74 rfl ?_
      refine jJ_geti (pc := 75) dX3_stands_75 fX3_45 rfl (by assumption) ?_
      try simp only [rdM_g1, rdM_g2, rdM_g3, rdM_g4, rdM_g5, rdM_g6, rdM_g7, rdM_g8, rdM_g9, rdM_g10, rdM_p1, rdM_p2, rdM_p3, rdM_p4, rdM_p5, rdM_p6, rdM_p7, rdM_p8, rdM_p9, rdM_p10, rdM_r, rdM_w, su_s, su_1_2, su_1_3, su_1_4, su_1_5, su_1_6, su_1_7, su_1_8, su_1_9, su_1_10, su_2_1, su_2_3, su_2_4, su_2_5, su_2_6, su_2_7, su_2_8, su_2_9, su_2_10, su_3_1, su_3_2, su_3_4, su_3_5, su_3_6, su_3_7, su_3_8, su_3_9, su_3_10, su_4_1, su_4_2, su_4_3, su_4_5, su_4_6, su_4_7, su_4_8, su_4_9, su_4_10, su_5_1, su_5_2, su_5_3, su_5_4, su_5_6, su_5_7, su_5_8, su_5_9, su_5_10, su_6_1, su_6_2, su_6_3, su_6_4, su_6_5, su_6_7, su_6_8, su_6_9, su_6_10, su_7_1, su_7_2, su_7_3, su_7_4, su_7_5, su_7_6, su_7_8, su_7_9, su_7_10, su_8_1, su_8_2, su_8_3, su_8_4, su_8_5, su_8_6, su_8_7, su_8_9, su_8_10, su_9_1, su_9_2, su_9_3, su_9_4, su_9_5, su_9_6, su_9_7, su_9_8, su_9_10, su_10_1, su_10_2, su_10_3, su_10_4, su_10_5, su_10_6, su_10_7, su_10_8, su_10_9]
      refine jJ_iconst (pc := 78) dX3_stands_78 (by decide) ?_
      refine jJ_icmp_ne (pc := 79) (tgt := 86) dX3_stands_79 (by decide) (fun c79 => ?_) (fun c79 => ?_)
      · refine jJ_iconst (pc := 86) dX3_stands_86 (by decide) ?_
        refine jJ_iconst (pc := 87) dX3_stands_87 (by decide) ?_
        refine jJ_callVd (pc := 88) (as := [_, _]) dX3_stands_88 mX3_120 (jRcv_of (by assumption) rfl rfl) (Nat.le_of_ble_eq_true rfl) (jRm_ok (by omega) (by decide)) (c_Rd_expect (d := d - 1) h (by decide)) ?_
        try simp only [rdM_g1, rdM_g2, rdM_g3, rdM_g4, rdM_g5, rdM_g6, rdM_g7, rdM_g8, rdM_g9, rdM_g10, rdM_p1, rdM_p2, rdM_p3, rdM_p4, rdM_p5, rdM_p6, rdM_p7, rdM_p8, rdM_p9, rdM_p10, rdM_r, rdM_w, su_s, su_1_2, su_1_3, su_1_4, su_1_5, su_1_6, su_1_7, su_1_8, su_1_9, su_1_10, su_2_1, su_2_3, su_2_4, su_2_5, su_2_6, su_2_7, su_2_8, su_2_9, su_2_10, su_3_1, su_3_2, su_3_4, su_3_5, su_3_6, su_3_7, su_3_8, su_3_9, su_3_10, su_4_1, su_4_2, su_4_3, su_4_5, su_4_6, su_4_7, su_4_8, su_4_9, su_4_10, su_5_1, su_5_2, su_5_3, su_5_4, su_5_6, su_5_7, su_5_8, su_5_9, su_5_10, su_6_1, su_6_2, su_6_3, su_6_4, su_6_5, su_6_7, su_6_8, su_6_9, su_6_10, su_7_1, su_7_2, su_7_3, su_7_4, su_7_5, su_7_6, su_7_8, su_7_9, su_7_10, su_8_1, su_8_2, su_8_3, su_8_4, su_8_5, su_8_6, su_8_7, su_8_9, su_8_10, su_9_1, su_9_2, su_9_3, su_9_4, su_9_5, su_9_6, su_9_7, su_9_8, su_9_10, su_10_1, su_10_2, su_10_3, su_10_4, su_10_5, su_10_6, su_10_7, su_10_8, su_10_9]
        refine jJ_zret (pc := 91) dX3_stands_91 rfl (by decide) ?_
        exact ⟨by simp [stdV, jb, *], by simp [stdS, stdR, *], rfl⟩
      · refine jJ_iconst (pc := 82) dX3_stands_82 (by decide) ?_
        refine jJ_goto (pc := 83) (tgt := 87) dX3_stands_83 (by decide) ?_
        refine jJ_iconst (pc := 87) dX3_stands_87 (by decide) ?_
        refine jJ_callVd (pc := 88) (as := [_, _]) dX3_stands_88 mX3_120 (jRcv_of (by assumption) rfl rfl) (Nat.le_of_ble_eq_true rfl) (jRm_ok (by omega) (by decide)) (c_Rd_expect (d := d - 1) h (by decide)) ?_
        try simp only [rdM_g1, rdM_g2, rdM_g3, rdM_g4, rdM_g5, rdM_g6, rdM_g7, rdM_g8, rdM_g9, rdM_g10, rdM_p1, rdM_p2, rdM_p3, rdM_p4, rdM_p5, rdM_p6, rdM_p7, rdM_p8, rdM_p9, rdM_p10, rdM_r, rdM_w, su_s, su_1_2, su_1_3, su_1_4, su_1_5, su_1_6, su_1_7, su_1_8, su_1_9, su_1_10, su_2_1, su_2_3, su_2_4, su_2_5, su_2_6, su_2_7, su_2_8, su_2_9, su_2_10, su_3_1, su_3_2, su_3_4, su_3_5, su_3_6, su_3_7, su_3_8, su_3_9, su_3_10, su_4_1, su_4_2, su_4_3, su_4_5, su_4_6, su_4_7, su_4_8, su_4_9, su_4_10, su_5_1, su_5_2, su_5_3, su_5_4, su_5_6, su_5_7, su_5_8, su_5_9, su_5_10, su_6_1, su_6_2, su_6_3, su_6_4, su_6_5, su_6_7, su_6_8, su_6_9, su_6_10, su_7_1, su_7_2, su_7_3, su_7_4, su_7_5, su_7_6, su_7_8, su_7_9, su_7_10, su_8_1, su_8_2, su_8_3, su_8_4, su_8_5, su_8_6, su_8_7, su_8_9, su_8_10, su_9_1, su_9_2, su_9_3, su_9_4, su_9_5, su_9_6, su_9_7, su_9_8, su_9_10, su_10_1, su_10_2, su_10_3, su_10_4, su_10_5, su_10_6, su_10_7, su_10_8, su_10_9]
        refine jJ_zret (pc := 91) dX3_stands_91 rfl (by decide) ?_
        exact ⟨by simp [stdV, jb, *], by simp [stdS, stdR, *], rfl⟩
    · rw [q]
      refine jJ_tableIn (pc := 4) (tgt := 92) dX3_stands_4 (by decide) (off := 88) (by decide) (by decide) ?_
      refine jJ_aload_n (pc := 92) dX3_stands_92 rfl ?_
      refine jJ_aload_n (pc := 93) dX3_stands_93 rfl ?_
      refine jJ_geti (pc := 94) dX3_stands_94 fX3_45 rfl (by assumption) ?_
      try simp only [rdM_g1, rdM_g2, rdM_g3, rdM_g4, rdM_g5, rdM_g6, rdM_g7, rdM_g8, rdM_g9, rdM_g10, rdM_p1, rdM_p2, rdM_p3, rdM_p4, rdM_p5, rdM_p6, rdM_p7, rdM_p8, rdM_p9, rdM_p10, rdM_r, rdM_w, su_s, su_1_2, su_1_3, su_1_4, su_1_5, su_1_6, su_1_7, su_1_8, su_1_9, su_1_10, su_2_1, su_2_3, su_2_4, su_2_5, su_2_6, su_2_7, su_2_8, su_2_9, su_2_10, su_3_1, su_3_2, su_3_4, su_3_5, su_3_6, su_3_7, su_3_8, su_3_9, su_3_10, su_4_1, su_4_2, su_4_3, su_4_5, su_4_6, su_4_7, su_4_8, su_4_9, su_4_10, su_5_1, su_5_2, su_5_3, su_5_4, su_5_6, su_5_7, su_5_8, su_5_9, su_5_10, su_6_1, su_6_2, su_6_3, su_6_4, su_6_5, su_6_7, su_6_8, su_6_9, su_6_10, su_7_1, su_7_2, su_7_3, su_7_4, su_7_5, su_7_6, su_7_8, su_7_9, su_7_10, su_8_1, su_8_2, su_8_3, su_8_4, su_8_5, su_8_6, su_8_7, su_8_9, su_8_10, su_9_1, su_9_2, su_9_3, su_9_4, su_9_5, su_9_6, su_9_7, su_9_8, su_9_10, su_10_1, su_10_2, su_10_3, su_10_4, su_10_5, su_10_6, su_10_7, su_10_8, su_10_9]
      refine jJ_bipush (pc := 97) dX3_stands_97 (by decide) ?_
      refine jJ_icmp_ne (pc := 99) (tgt := 106) dX3_stands_99 (by decide) (fun c99 => ?_) (fun c99 => ?_)
      · refine jJ_iconst (pc := 106) dX3_stands_106 (by decide) ?_
        refine jJ_iconst (pc := 107) dX3_stands_107 (by decide) ?_
        refine jJ_callVd (pc := 108) (as := [_, _]) dX3_stands_108 mX3_120 (jRcv_of (by assumption) rfl rfl) (Nat.le_of_ble_eq_true rfl) (jRm_ok (by omega) (by decide)) (c_Rd_expect (d := d - 1) h (by decide)) ?_
        try simp only [rdM_g1, rdM_g2, rdM_g3, rdM_g4, rdM_g5, rdM_g6, rdM_g7, rdM_g8, rdM_g9, rdM_g10, rdM_p1, rdM_p2, rdM_p3, rdM_p4, rdM_p5, rdM_p6, rdM_p7, rdM_p8, rdM_p9, rdM_p10, rdM_r, rdM_w, su_s, su_1_2, su_1_3, su_1_4, su_1_5, su_1_6, su_1_7, su_1_8, su_1_9, su_1_10, su_2_1, su_2_3, su_2_4, su_2_5, su_2_6, su_2_7, su_2_8, su_2_9, su_2_10, su_3_1, su_3_2, su_3_4, su_3_5, su_3_6, su_3_7, su_3_8, su_3_9, su_3_10, su_4_1, su_4_2, su_4_3, su_4_5, su_4_6, su_4_7, su_4_8, su_4_9, su_4_10, su_5_1, su_5_2, su_5_3, su_5_4, su_5_6, su_5_7, su_5_8, su_5_9, su_5_10, su_6_1, su_6_2, su_6_3, su_6_4, su_6_5, su_6_7, su_6_8, su_6_9, su_6_10, su_7_1, su_7_2, su_7_3, su_7_4, su_7_5, su_7_6, su_7_8, su_7_9, su_7_10, su_8_1, su_8_2, su_8_3, su_8_4, su_8_5, su_8_6, su_8_7, su_8_9, su_8_10, su_9_1, su_9_2, su_9_3, su_9_4, su_9_5, su_9_6, su_9_7, su_9_8, su_9_10, su_10_1, su_10_2, su_10_3, su_10_4, su_10_5, su_10_6, su_10_7, su_10_8, su_10_9]
        refine jJ_if_eq (pc := 111) (tgt := 126) dX3_stands_111 (by decide) (fun c111 => ?_) (fun c111 => ?_)
        · refine jJ_iconst (pc := 126) dX3_stands_126 (by decide) ?_
          refine jJ_zret (pc := 127) dX3_stands_127 rfl (by decide) ?_
          first | (exfalso; omega) | exact ⟨by simp [stdV, jb, *], by simp [stdS, stdR, *], rfl⟩
        · refine jJ_aload_n (pc := 114) dX3_stands_114 rfl ?_
          refine jJ_iconst (pc := 115) dX3_stands_115 (by decide) ?_
          refine jJ_callVd (pc := 116) (as := [_]) dX3_stands_116 mX3_124 (jRcv_of (by assumption) rfl rfl) (Nat.le_of_ble_eq_true rfl) (jRm_ok (by omega) (by decide)) (c_Rd_push (d := d - 1) h (by first | exact hs1 | simpa [su] using hs1)) ?_
          try simp only [rdM_g1, rdM_g2, rdM_g3, rdM_g4, rdM_g5, rdM_g6, rdM_g7, rdM_g8, rdM_g9, rdM_g10, rdM_p1, rdM_p2, rdM_p3, rdM_p4, rdM_p5, rdM_p6, rdM_p7, rdM_p8, rdM_p9, rdM_p10, rdM_r, rdM_w, su_s, su_1_2, su_1_3, su_1_4, su_1_5, su_1_6, su_1_7, su_1_8, su_1_9, su_1_10, su_2_1, su_2_3, su_2_4, su_2_5, su_2_6, su_2_7, su_2_8, su_2_9, su_2_10, su_3_1, su_3_2, su_3_4, su_3_5, su_3_6, su_3_7, su_3_8, su_3_9, su_3_10, su_4_1, su_4_2, su_4_3, su_4_5, su_4_6, su_4_7, su_4_8, su_4_9, su_4_10, su_5_1, su_5_2, su_5_3, su_5_4, su_5_6, su_5_7, su_5_8, su_5_9, su_5_10, su_6_1, su_6_2, su_6_3, su_6_4, su_6_5, su_6_7, su_6_8, su_6_9, su_6_10, su_7_1, su_7_2, su_7_3, su_7_4, su_7_5, su_7_6, su_7_8, su_7_9, su_7_10, su_8_1, su_8_2, su_8_3, su_8_4, su_8_5, su_8_6, su_8_7, su_8_9, su_8_10, su_9_1, su_9_2, su_9_3, su_9_4, su_9_5, su_9_6, su_9_7, su_9_8, su_9_10, su_10_1, su_10_2, su_10_3, su_10_4, su_10_5, su_10_6, su_10_7, su_10_8, su_10_9]
          refine jJ_if_eq (pc := 119) (tgt := 126) dX3_stands_119 (by decide) (fun c119 => ?_) (fun c119 => ?_)
          · refine jJ_iconst (pc := 126) dX3_stands_126 (by decide) ?_
            refine jJ_zret (pc := 127) dX3_stands_127 rfl (by decide) ?_
            first | (exfalso; omega) | exact ⟨by simp [stdV, jb, *], by simp [stdS, stdR, *], rfl⟩
          · refine jJ_iconst (pc := 122) dX3_stands_122 (by decide) ?_
            refine jJ_goto (pc := 123) (tgt := 127) dX3_stands_123 (by decide) ?_
            refine jJ_zret (pc := 127) dX3_stands_127 rfl (by decide) ?_
            first | (exfalso; omega) | exact ⟨by simp [stdV, jb, *], by simp [stdS, stdR, *], rfl⟩
      · refine jJ_iconst (pc := 102) dX3_stands_102 (by decide) ?_
        refine jJ_goto (pc := 103) (tgt := 107) dX3_stands_103 (by decide) ?_
        refine jJ_iconst (pc := 107) dX3_stands_107 (by decide) ?_
        refine jJ_callVd (pc := 108) (as := [_, _]) dX3_stands_108 mX3_120 (jRcv_of (by assumption) rfl rfl) (Nat.le_of_ble_eq_true rfl) (jRm_ok (by omega) (by decide)) (c_Rd_expect (d := d - 1) h (by decide)) ?_
        try simp only [rdM_g1, rdM_g2, rdM_g3, rdM_g4, rdM_g5, rdM_g6, rdM_g7, rdM_g8, rdM_g9, rdM_g10, rdM_p1, rdM_p2, rdM_p3, rdM_p4, rdM_p5, rdM_p6, rdM_p7, rdM_p8, rdM_p9, rdM_p10, rdM_r, rdM_w, su_s, su_1_2, su_1_3, su_1_4, su_1_5, su_1_6, su_1_7, su_1_8, su_1_9, su_1_10, su_2_1, su_2_3, su_2_4, su_2_5, su_2_6, su_2_7, su_2_8, su_2_9, su_2_10, su_3_1, su_3_2, su_3_4, su_3_5, su_3_6, su_3_7, su_3_8, su_3_9, su_3_10, su_4_1, su_4_2, su_4_3, su_4_5, su_4_6, su_4_7, su_4_8, su_4_9, su_4_10, su_5_1, su_5_2, su_5_3, su_5_4, su_5_6, su_5_7, su_5_8, su_5_9, su_5_10, su_6_1, su_6_2, su_6_3, su_6_4, su_6_5, su_6_7, su_6_8, su_6_9, su_6_10, su_7_1, su_7_2, su_7_3, su_7_4, su_7_5, su_7_6, su_7_8, su_7_9, su_7_10, su_8_1, su_8_2, su_8_3, su_8_4, su_8_5, su_8_6, su_8_7, su_8_9, su_8_10, su_9_1, su_9_2, su_9_3, su_9_4, su_9_5, su_9_6, su_9_7, su_9_8, su_9_10, su_10_1, su_10_2, su_10_3, su_10_4, su_10_5, su_10_6, su_10_7, su_10_8, su_10_9]
        refine jJ_if_eq (pc := 111) (tgt := 126) dX3_stands_111 (by decide) (fun c111 => ?_) (fun c111 => ?_)
        · refine jJ_iconst (pc := 126) dX3_stands_126 (by decide) ?_
          refine jJ_zret (pc := 127) dX3_stands_127 rfl (by decide) ?_
          first | (exfalso; omega) | exact ⟨by simp [stdV, jb, *], by simp [stdS, stdR, *], rfl⟩
        · refine jJ_aload_n (pc := 114) dX3_stands_114 rfl ?_
          refine jJ_iconst (pc := 115) dX3_stands_115 (by decide) ?_
          refine jJ_callVd (pc := 116) (as := [_]) dX3_stands_116 mX3_124 (jRcv_of (by assumption) rfl rfl) (Nat.le_of_ble_eq_true rfl) (jRm_ok (by omega) (by decide)) (c_Rd_push (d := d - 1) h (by first | exact hs1 | simpa [su] using hs1)) ?_
          try simp only [rdM_g1, rdM_g2, rdM_g3, rdM_g4, rdM_g5, rdM_g6, rdM_g7, rdM_g8, rdM_g9, rdM_g10, rdM_p1, rdM_p2, rdM_p3, rdM_p4, rdM_p5, rdM_p6, rdM_p7, rdM_p8, rdM_p9, rdM_p10, rdM_r, rdM_w, su_s, su_1_2, su_1_3, su_1_4, su_1_5, su_1_6, su_1_7, su_1_8, su_1_9, su_1_10, su_2_1, su_2_3, su_2_4, su_2_5, su_2_6, su_2_7, su_2_8, su_2_9, su_2_10, su_3_1, su_3_2, su_3_4, su_3_5, su_3_6, su_3_7, su_3_8, su_3_9, su_3_10, su_4_1, su_4_2, su_4_3, su_4_5, su_4_6, su_4_7, su_4_8, su_4_9, su_4_10, su_5_1, su_5_2, su_5_3, su_5_4, su_5_6, su_5_7, su_5_8, su_5_9, su_5_10, su_6_1, su_6_2, su_6_3, su_6_4, su_6_5, su_6_7, su_6_8, su_6_9, su_6_10, su_7_1, su_7_2, su_7_3, su_7_4, su_7_5, su_7_6, su_7_8, su_7_9, su_7_10, su_8_1, su_8_2, su_8_3, su_8_4, su_8_5, su_8_6, su_8_7, su_8_9, su_8_10, su_9_1, su_9_2, su_9_3, su_9_4, su_9_5, su_9_6, su_9_7, su_9_8, su_9_10, su_10_1, su_10_2, su_10_3, su_10_4, su_10_5, su_10_6, su_10_7, su_10_8, su_10_9]
          refine jJ_if_eq (pc := 119) (tgt := 126) dX3_stands_119 (by decide) (fun c119 => ?_) (fun c119 => ?_)
          · refine jJ_iconst (pc := 126) dX3_stands_126 (by decide) ?_
            refine jJ_zret (pc := 127) dX3_stands_127 rfl (by decide) ?_
            first | (exfalso; omega) | exact ⟨by simp [stdV, jb, *], by simp [stdS, stdR, *], rfl⟩
          · refine jJ_iconst (pc := 122) dX3_stands_122 (by decide) ?_
            refine jJ_goto (pc := 123) (tgt := 127) dX3_stands_123 (by decide) ?_
            refine jJ_zret (pc := 127) dX3_stands_127 rfl (by decide) ?_
            first | (exfalso; omega) | exact ⟨by simp [stdV, jb, *], by simp [stdS, stdR, *], rfl⟩
    · rw [q]
      refine jJ_tableIn (pc := 4) (tgt := 128) dX3_stands_4 (by decide) (off := 124) (by decide) (by decide) ?_
      refine jJ_aload_n (pc := 128) dX3_stands_128 rfl ?_
      refine jJ_geti (pc := 129) dX3_stands_129 fX3_45 rfl (by assumption) ?_
      try simp only [rdM_g1, rdM_g2, rdM_g3, rdM_g4, rdM_g5, rdM_g6, rdM_g7, rdM_g8, rdM_g9, rdM_g10, rdM_p1, rdM_p2, rdM_p3, rdM_p4, rdM_p5, rdM_p6, rdM_p7, rdM_p8, rdM_p9, rdM_p10, rdM_r, rdM_w, su_s, su_1_2, su_1_3, su_1_4, su_1_5, su_1_6, su_1_7, su_1_8, su_1_9, su_1_10, su_2_1, su_2_3, su_2_4, su_2_5, su_2_6, su_2_7, su_2_8, su_2_9, su_2_10, su_3_1, su_3_2, su_3_4, su_3_5, su_3_6, su_3_7, su_3_8, su_3_9, su_3_10, su_4_1, su_4_2, su_4_3, su_4_5, su_4_6, su_4_7, su_4_8, su_4_9, su_4_10, su_5_1, su_5_2, su_5_3, su_5_4, su_5_6, su_5_7, su_5_8, su_5_9, su_5_10, su_6_1, su_6_2, su_6_3, su_6_4, su_6_5, su_6_7, su_6_8, su_6_9, su_6_10, su_7_1, su_7_2, su_7_3, su_7_4, su_7_5, su_7_6, su_7_8, su_7_9, su_7_10, su_8_1, su_8_2, su_8_3, su_8_4, su_8_5, su_8_6, su_8_7, su_8_9, su_8_10, su_9_1, su_9_2, su_9_3, su_9_4, su_9_5, su_9_6, su_9_7, su_9_8, su_9_10, su_10_1, su_10_2, su_10_3, su_10_4, su_10_5, su_10_6, su_10_7, su_10_8, su_10_9]
      refine jJ_bipush (pc := 132) dX3_stands_132 (by decide) ?_
      refine jJ_icmp_ne (pc := 134) (tgt := 144) dX3_stands_134 (by decide) (fun c134 => ?_) (fun c134 => ?_)
      · refine jJ_aload_n (pc := 144) dX3_stands_144 rfl ?_
        refine jJ_callVd (pc := 145) (as := []) dX3_stands_145 mX3_130 (jRcv_of (by assumption) rfl rfl) (Nat.le_of_ble_eq_true rfl) (jRm_ok (by omega) (by decide)) (c_Rd_startPart (d := d - 1) h hs' (by omega)) ?_
        try simp only [rdM_g1, rdM_g2, rdM_g3, rdM_g4, rdM_g5, rdM_g6, rdM_g7, rdM_g8, rdM_g9, rdM_g10, rdM_p1, rdM_p2, rdM_p3, rdM_p4, rdM_p5, rdM_p6, rdM_p7, rdM_p8, rdM_p9, rdM_p10, rdM_r, rdM_w, su_s, su_1_2, su_1_3, su_1_4, su_1_5, su_1_6, su_1_7, su_1_8, su_1_9, su_1_10, su_2_1, su_2_3, su_2_4, su_2_5, su_2_6, su_2_7, su_2_8, su_2_9, su_2_10, su_3_1, su_3_2, su_3_4, su_3_5, su_3_6, su_3_7, su_3_8, su_3_9, su_3_10, su_4_1, su_4_2, su_4_3, su_4_5, su_4_6, su_4_7, su_4_8, su_4_9, su_4_10, su_5_1, su_5_2, su_5_3, su_5_4, su_5_6, su_5_7, su_5_8, su_5_9, su_5_10, su_6_1, su_6_2, su_6_3, su_6_4, su_6_5, su_6_7, su_6_8, su_6_9, su_6_10, su_7_1, su_7_2, su_7_3, su_7_4, su_7_5, su_7_6, su_7_8, su_7_9, su_7_10, su_8_1, su_8_2, su_8_3, su_8_4, su_8_5, su_8_6, su_8_7, su_8_9, su_8_10, su_9_1, su_9_2, su_9_3, su_9_4, su_9_5, su_9_6, su_9_7, su_9_8, su_9_10, su_10_1, su_10_2, su_10_3, su_10_4, su_10_5, su_10_6, su_10_7, su_10_8, su_10_9]
        refine jJ_zret (pc := 148) dX3_stands_148 rfl (by first | decide | (unfold sptV; split <;> first | decide | exact jb_01)) ?_
        exact ⟨by simp [stdV, *], by simp [stdS, stdR, *], rfl⟩
      · refine jJ_aload_n (pc := 137) dX3_stands_137 rfl ?_
        refine jJ_callVd (pc := 138) (as := []) dX3_stands_138 mX3_127 (jRcv_of (by assumption) rfl rfl) (Nat.le_of_ble_eq_true rfl) (jRm_ok (by omega) (by decide)) (c_Rd_endBracket (d := d - 1) h hs1 (by omega)) ?_
        try simp only [rdM_g1, rdM_g2, rdM_g3, rdM_g4, rdM_g5, rdM_g6, rdM_g7, rdM_g8, rdM_g9, rdM_g10, rdM_p1, rdM_p2, rdM_p3, rdM_p4, rdM_p5, rdM_p6, rdM_p7, rdM_p8, rdM_p9, rdM_p10, rdM_r, rdM_w, su_s, su_1_2, su_1_3, su_1_4, su_1_5, su_1_6, su_1_7, su_1_8, su_1_9, su_1_10, su_2_1, su_2_3, su_2_4, su_2_5, su_2_6, su_2_7, su_2_8, su_2_9, su_2_10, su_3_1, su_3_2, su_3_4, su_3_5, su_3_6, su_3_7, su_3_8, su_3_9, su_3_10, su_4_1, su_4_2, su_4_3, su_4_5, su_4_6, su_4_7, su_4_8, su_4_9, su_4_10, su_5_1, su_5_2, su_5_3, su_5_4, su_5_6, su_5_7, su_5_8, su_5_9, su_5_10, su_6_1, su_6_2, su_6_3, su_6_4, su_6_5, su_6_7, su_6_8, su_6_9, su_6_10, su_7_1, su_7_2, su_7_3, su_7_4, su_7_5, su_7_6, su_7_8, su_7_9, su_7_10, su_8_1, su_8_2, su_8_3, su_8_4, su_8_5, su_8_6, su_8_7, su_8_9, su_8_10, su_9_1, su_9_2, su_9_3, su_9_4, su_9_5, su_9_6, su_9_7, su_9_8, su_9_10, su_10_1, su_10_2, su_10_3, su_10_4, su_10_5, su_10_6, su_10_7, su_10_8, su_10_9]
        refine jJ_goto (pc := 141) (tgt := 148) dX3_stands_141 (by decide) ?_
        refine jJ_zret (pc := 148) dX3_stands_148 rfl (by first | decide | (unfold sptV; split <;> first | decide | exact jb_01)) ?_
        exact ⟨by simp [stdV, *], by simp [stdS, stdR, *], rfl⟩
    · rw [q]
      refine jJ_tableIn (pc := 4) (tgt := 149) dX3_stands_4 (by decide) (off := 145) (by decide) (by decide) ?_
      refine jJ_aload_n (pc := 149) dX3_stands_149 rfl ?_
      refine jJ_callVd (pc := 150) (as := []) dX3_stands_150 mX3_130 (jRcv_of (by assumption) rfl rfl) (Nat.le_of_ble_eq_true rfl) (jRm_ok (by omega) (by decide)) (c_Rd_startPart (d := d - 1) h hs' (by omega)) ?_
      refine jJ_zret (pc := 153) dX3_stands_153 rfl (by unfold sptV; split <;> first | decide | exact jb_01) ?_
      exact ⟨by simp [stdV, *], by simp [stdS, stdR, *], rfl⟩
    · rw [q]
      refine jJ_tableIn (pc := 4) (tgt := 154) dX3_stands_4 (by decide) (off := 150) (by decide) (by decide) ?_
      refine jJ_aload_n (pc := 154) dX3_stands_154 rfl ?_
      refine jJ_callVd (pc := 155) (as := []) dX3_stands_155 mX3_133 (jRcv_of (by assumption) rfl rfl) (Nat.le_of_ble_eq_true rfl) (jRm_ok (by omega) (by decide)) (c_Rd_goOn (d := d - 1) h hs' (by omega)) ?_
      refine jJ_zret (pc := 158) dX3_stands_158 rfl (by unfold goV; (repeat' split) <;> first | decide | exact jb_01) ?_
      exact ⟨by simp [stdV, *], by simp [stdS, stdR, *], rfl⟩
    · rw [q]
      refine jJ_tableIn (pc := 4) (tgt := 159) dX3_stands_4 (by decide) (off := 155) (by decide) (by decide) ?_
      refine jJ_aload_n (pc := 159) dX3_stands_159 rfl ?_
      refine jJ_aload_n (pc := 160) dX3_stands_160 rfl ?_
      refine jJ_geti (pc := 161) dX3_stands_161 fX3_45 rfl (by assumption) ?_
      try simp only [rdM_g1, rdM_g2, rdM_g3, rdM_g4, rdM_g5, rdM_g6, rdM_g7, rdM_g8, rdM_g9, rdM_g10, rdM_p1, rdM_p2, rdM_p3, rdM_p4, rdM_p5, rdM_p6, rdM_p7, rdM_p8, rdM_p9, rdM_p10, rdM_r, rdM_w, su_s, su_1_2, su_1_3, su_1_4, su_1_5, su_1_6, su_1_7, su_1_8, su_1_9, su_1_10, su_2_1, su_2_3, su_2_4, su_2_5, su_2_6, su_2_7, su_2_8, su_2_9, su_2_10, su_3_1, su_3_2, su_3_4, su_3_5, su_3_6, su_3_7, su_3_8, su_3_9, su_3_10, su_4_1, su_4_2, su_4_3, su_4_5, su_4_6, su_4_7, su_4_8, su_4_9, su_4_10, su_5_1, su_5_2, su_5_3, su_5_4, su_5_6, su_5_7, su_5_8, su_5_9, su_5_10, su_6_1, su_6_2, su_6_3, su_6_4, su_6_5, su_6_7, su_6_8, su_6_9, su_6_10, su_7_1, su_7_2, su_7_3, su_7_4, su_7_5, su_7_6, su_7_8, su_7_9, su_7_10, su_8_1, su_8_2, su_8_3, su_8_4, su_8_5, su_8_6, su_8_7, su_8_9, su_8_10, su_9_1, su_9_2, su_9_3, su_9_4, su_9_5, su_9_6, su_9_7, su_9_8, su_9_10, su_10_1, su_10_2, su_10_3, su_10_4, su_10_5, su_10_6, su_10_7, su_10_8, su_10_9]
      refine jJ_bipush (pc := 164) dX3_stands_164 (by decide) ?_
      refine jJ_icmp_ne (pc := 166) (tgt := 173) dX3_stands_166 (by decide) (fun c166 => ?_) (fun c166 => ?_)
      · refine jJ_iconst (pc := 173) dX3_stands_173 (by decide) ?_
        refine jJ_iconst (pc := 174) dX3_stands_174 (by decide) ?_
        refine jJ_callVd (pc := 175) (as := [_, _]) dX3_stands_175 mX3_120 (jRcv_of (by assumption) rfl rfl) (Nat.le_of_ble_eq_true rfl) (jRm_ok (by omega) (by decide)) (c_Rd_expect (d := d - 1) h (by decide)) ?_
        try simp only [rdM_g1, rdM_g2, rdM_g3, rdM_g4, rdM_g5, rdM_g6, rdM_g7, rdM_g8, rdM_g9, rdM_g10, rdM_p1, rdM_p2, rdM_p3, rdM_p4, rdM_p5, rdM_p6, rdM_p7, rdM_p8, rdM_p9, rdM_p10, rdM_r, rdM_w, su_s, su_1_2, su_1_3, su_1_4, su_1_5, su_1_6, su_1_7, su_1_8, su_1_9, su_1_10, su_2_1, su_2_3, su_2_4, su_2_5, su_2_6, su_2_7, su_2_8, su_2_9, su_2_10, su_3_1, su_3_2, su_3_4, su_3_5, su_3_6, su_3_7, su_3_8, su_3_9, su_3_10, su_4_1, su_4_2, su_4_3, su_4_5, su_4_6, su_4_7, su_4_8, su_4_9, su_4_10, su_5_1, su_5_2, su_5_3, su_5_4, su_5_6, su_5_7, su_5_8, su_5_9, su_5_10, su_6_1, su_6_2, su_6_3, su_6_4, su_6_5, su_6_7, su_6_8, su_6_9, su_6_10, su_7_1, su_7_2, su_7_3, su_7_4, su_7_5, su_7_6, su_7_8, su_7_9, su_7_10, su_8_1, su_8_2, su_8_3, su_8_4, su_8_5, su_8_6, su_8_7, su_8_9, su_8_10, su_9_1, su_9_2, su_9_3, su_9_4, su_9_5, su_9_6, su_9_7, su_9_8, su_9_10, su_10_1, su_10_2, su_10_3, su_10_4, su_10_5, su_10_6, su_10_7, su_10_8, su_10_9]
        refine jJ_zret (pc := 178) dX3_stands_178 rfl (by decide) ?_
        exact ⟨by simp [stdV, jb, *], by simp [stdS, stdR, *], rfl⟩
      · refine jJ_iconst (pc := 169) dX3_stands_169 (by decide) ?_
        refine jJ_goto (pc := 170) (tgt := 174) dX3_stands_170 (by decide) ?_
        refine jJ_iconst (pc := 174) dX3_stands_174 (by decide) ?_
        refine jJ_callVd (pc := 175) (as := [_, _]) dX3_stands_175 mX3_120 (jRcv_of (by assumption) rfl rfl) (Nat.le_of_ble_eq_true rfl) (jRm_ok (by omega) (by decide)) (c_Rd_expect (d := d - 1) h (by decide)) ?_
        try simp only [rdM_g1, rdM_g2, rdM_g3, rdM_g4, rdM_g5, rdM_g6, rdM_g7, rdM_g8, rdM_g9, rdM_g10, rdM_p1, rdM_p2, rdM_p3, rdM_p4, rdM_p5, rdM_p6, rdM_p7, rdM_p8, rdM_p9, rdM_p10, rdM_r, rdM_w, su_s, su_1_2, su_1_3, su_1_4, su_1_5, su_1_6, su_1_7, su_1_8, su_1_9, su_1_10, su_2_1, su_2_3, su_2_4, su_2_5, su_2_6, su_2_7, su_2_8, su_2_9, su_2_10, su_3_1, su_3_2, su_3_4, su_3_5, su_3_6, su_3_7, su_3_8, su_3_9, su_3_10, su_4_1, su_4_2, su_4_3, su_4_5, su_4_6, su_4_7, su_4_8, su_4_9, su_4_10, su_5_1, su_5_2, su_5_3, su_5_4, su_5_6, su_5_7, su_5_8, su_5_9, su_5_10, su_6_1, su_6_2, su_6_3, su_6_4, su_6_5, su_6_7, su_6_8, su_6_9, su_6_10, su_7_1, su_7_2, su_7_3, su_7_4, su_7_5, su_7_6, su_7_8, su_7_9, su_7_10, su_8_1, su_8_2, su_8_3, su_8_4, su_8_5, su_8_6, su_8_7, su_8_9, su_8_10, su_9_1, su_9_2, su_9_3, su_9_4, su_9_5, su_9_6, su_9_7, su_9_8, su_9_10, su_10_1, su_10_2, su_10_3, su_10_4, su_10_5, su_10_6, su_10_7, su_10_8, su_10_9]
        refine jJ_zret (pc := 178) dX3_stands_178 rfl (by decide) ?_
        exact ⟨by simp [stdV, jb, *], by simp [stdS, stdR, *], rfl⟩
    · rw [q]
      refine jJ_tableIn (pc := 4) (tgt := 179) dX3_stands_4 (by decide) (off := 175) (by decide) (by decide) ?_
      refine jJ_aload_n (pc := 179) dX3_stands_179 rfl ?_
      refine jJ_geti (pc := 180) dX3_stands_180 fX3_45 rfl (by assumption) ?_
      try simp only [rdM_g1, rdM_g2, rdM_g3, rdM_g4, rdM_g5, rdM_g6, rdM_g7, rdM_g8, rdM_g9, rdM_g10, rdM_p1, rdM_p2, rdM_p3, rdM_p4, rdM_p5, rdM_p6, rdM_p7, rdM_p8, rdM_p9, rdM_p10, rdM_r, rdM_w, su_s, su_1_2, su_1_3, su_1_4, su_1_5, su_1_6, su_1_7, su_1_8, su_1_9, su_1_10, su_2_1, su_2_3, su_2_4, su_2_5, su_2_6, su_2_7, su_2_8, su_2_9, su_2_10, su_3_1, su_3_2, su_3_4, su_3_5, su_3_6, su_3_7, su_3_8, su_3_9, su_3_10, su_4_1, su_4_2, su_4_3, su_4_5, su_4_6, su_4_7, su_4_8, su_4_9, su_4_10, su_5_1, su_5_2, su_5_3, su_5_4, su_5_6, su_5_7, su_5_8, su_5_9, su_5_10, su_6_1, su_6_2, su_6_3, su_6_4, su_6_5, su_6_7, su_6_8, su_6_9, su_6_10, su_7_1, su_7_2, su_7_3, su_7_4, su_7_5, su_7_6, su_7_8, su_7_9, su_7_10, su_8_1, su_8_2, su_8_3, su_8_4, su_8_5, su_8_6, su_8_7, su_8_9, su_8_10, su_9_1, su_9_2, su_9_3, su_9_4, su_9_5, su_9_6, su_9_7, su_9_8, su_9_10, su_10_1, su_10_2, su_10_3, su_10_4, su_10_5, su_10_6, su_10_7, su_10_8, su_10_9]
      refine jJ_bipush (pc := 183) dX3_stands_183 (by decide) ?_
      refine jJ_icmp_ne (pc := 185) (tgt := 200) dX3_stands_185 (by decide) (fun c185 => ?_) (fun c185 => ?_)
      · refine jJ_iconst (pc := 200) dX3_stands_200 (by decide) ?_
        refine jJ_zret (pc := 201) dX3_stands_201 rfl (by decide) ?_
        first | (exfalso; omega) | exact ⟨by simp [stdV, jb, *], by simp [stdS, stdR, *], rfl⟩
      · refine jJ_aload_n (pc := 188) dX3_stands_188 rfl ?_
        refine jJ_iconst (pc := 189) dX3_stands_189 (by decide) ?_
        refine jJ_callVd (pc := 190) (as := [_]) dX3_stands_190 mX3_136 (jRcv_of (by assumption) rfl rfl) (Nat.le_of_ble_eq_true rfl) (jRm_ok (by omega) (by decide)) (c_Rd_startBlock (d := d - 1) h hs1 hs2 (by omega)) ?_
        try simp only [rdM_g1, rdM_g2, rdM_g3, rdM_g4, rdM_g5, rdM_g6, rdM_g7, rdM_g8, rdM_g9, rdM_g10, rdM_p1, rdM_p2, rdM_p3, rdM_p4, rdM_p5, rdM_p6, rdM_p7, rdM_p8, rdM_p9, rdM_p10, rdM_r, rdM_w, su_s, su_1_2, su_1_3, su_1_4, su_1_5, su_1_6, su_1_7, su_1_8, su_1_9, su_1_10, su_2_1, su_2_3, su_2_4, su_2_5, su_2_6, su_2_7, su_2_8, su_2_9, su_2_10, su_3_1, su_3_2, su_3_4, su_3_5, su_3_6, su_3_7, su_3_8, su_3_9, su_3_10, su_4_1, su_4_2, su_4_3, su_4_5, su_4_6, su_4_7, su_4_8, su_4_9, su_4_10, su_5_1, su_5_2, su_5_3, su_5_4, su_5_6, su_5_7, su_5_8, su_5_9, su_5_10, su_6_1, su_6_2, su_6_3, su_6_4, su_6_5, su_6_7, su_6_8, su_6_9, su_6_10, su_7_1, su_7_2, su_7_3, su_7_4, su_7_5, su_7_6, su_7_8, su_7_9, su_7_10, su_8_1, su_8_2, su_8_3, su_8_4, su_8_5, su_8_6, su_8_7, su_8_9, su_8_10, su_9_1, su_9_2, su_9_3, su_9_4, su_9_5, su_9_6, su_9_7, su_9_8, su_9_10, su_10_1, su_10_2, su_10_3, su_10_4, su_10_5, su_10_6, su_10_7, su_10_8, su_10_9]
        refine jJ_if_eq (pc := 193) (tgt := 200) dX3_stands_193 (by decide) (fun c193 => ?_) (fun c193 => ?_)
        · refine jJ_iconst (pc := 200) dX3_stands_200 (by decide) ?_
          refine jJ_zret (pc := 201) dX3_stands_201 rfl (by decide) ?_
          first | (exfalso; omega) | exact ⟨by simp [stdV, jb, *], by simp [stdS, stdR, *], rfl⟩
        · refine jJ_iconst (pc := 196) dX3_stands_196 (by decide) ?_
          refine jJ_goto (pc := 197) (tgt := 201) dX3_stands_197 (by decide) ?_
          refine jJ_zret (pc := 201) dX3_stands_201 rfl (by decide) ?_
          first | (exfalso; omega) | exact ⟨by simp [stdV, jb, *], by simp [stdS, stdR, *], rfl⟩
  · refine jJ_tableOut (pc := 4) (tgt := 202) dX3_stands_4 (by omega) (by decide) ?_
    have n2 : s 4 ≠ 2 := by omega
    have n3 : s 4 ≠ 3 := by omega
    have n4 : s 4 ≠ 4 := by omega
    have n5 : s 4 ≠ 5 := by omega
    have n6 : s 4 ≠ 6 := by omega
    have n7 : s 4 ≠ 7 := by omega
    have n8 : s 4 ≠ 8 := by omega
    have n9 : s 4 ≠ 9 := by omega
    refine jJ_aload_n (pc := 202) dX3_stands_202 rfl ?_
    refine jJ_callVd (pc := 203) (as := []) dX3_stands_203 mX3_139 (jRcv_of (by assumption) rfl rfl) (Nat.le_of_ble_eq_true rfl) (jRm_ok (by omega) (by decide)) (c_Rd_startStatement (d := d - 1) h hs' (by omega)) ?_
    refine jJ_zret (pc := 206) dX3_stands_206 rfl (by unfold stmV; (repeat' split) <;> first | decide | exact jb_01) ?_
    exact ⟨by simp [stdV, n2, n3, n4, n5, n6, n7, n8, n9], by simp [stdS, stdR, n2, n3, n4, n5, n6, n7, n8, n9], rfl⟩
theorem c_Rd_isTooMuch {x : Nat} {q : Nat → Nat} (h : RdL E P rd op) (hx : TxL E P x q) (hr : -1000 ≤ s 8 ∧ s 8 ≤ 100000) (hr2 : -1000 ≤ s 9 ∧ s 9 ≤ 100000) (hd : 1 ≤ d) : jC E yX3_isTooMuch cX3_isTooMuch 3 (some .boolean) d [jp rd, jp x] (rdM I rd op s r) P (jD (some (ji (jb (200 ≤ I x 11 ∨ s 3 ≠ 0 ∨ (s 10 = 1 ∧ 16 < s 9 - s 8) ∨ (s 10 = 2 ∧ 6 < s 9 - s 8))))) (rdM I rd op s r) P) := by
  have h0 := h.1
  have hx0 := hx.1
  have n1 : x ≠ rd := jne hx.1.2 h.1.2 (by decide)
  have n2 : x ≠ op := jne hx.1.2 h.2.2.2.1 (by decide)
  refine jC_intro (by decide +kernel) (by simp [jc, va_rf, Value.category]) (Nat.le_of_ble_eq_true rfl) ?_
  refine jJ_aload_n (pc := 0) dX3_isTooMuch_0 rfl ?_
  refine jJ_geti (pc := 1) dX3_isTooMuch_1 fX3_38 rfl (by assumption) ?_
  try simp only [rdM_g1, rdM_g2, rdM_g3, rdM_g4, rdM_g5, rdM_g6, rdM_g7, rdM_g8, rdM_g9, rdM_g10, rdM_p1, rdM_p2, rdM_p3, rdM_p4, rdM_p5, rdM_p6, rdM_p7, rdM_p8, rdM_p9, rdM_p10, rdM_r, rdM_w, su_s, su_1_2, su_1_3, su_1_4, su_1_5, su_1_6, su_1_7, su_1_8, su_1_9, su_1_10, su_2_1, su_2_3, su_2_4, su_2_5, su_2_6, su_2_7, su_2_8, su_2_9, su_2_10, su_3_1, su_3_2, su_3_4, su_3_5, su_3_6, su_3_7, su_3_8, su_3_9, su_3_10, su_4_1, su_4_2, su_4_3, su_4_5, su_4_6, su_4_7, su_4_8, su_4_9, su_4_10, su_5_1, su_5_2, su_5_3, su_5_4, su_5_6, su_5_7, su_5_8, su_5_9, su_5_10, su_6_1, su_6_2, su_6_3, su_6_4, su_6_5, su_6_7, su_6_8, su_6_9, su_6_10, su_7_1, su_7_2, su_7_3, su_7_4, su_7_5, su_7_6, su_7_8, su_7_9, su_7_10, su_8_1, su_8_2, su_8_3, su_8_4, su_8_5, su_8_6, su_8_7, su_8_9, su_8_10, su_9_1, su_9_2, su_9_3, su_9_4, su_9_5, su_9_6, su_9_7, su_9_8, su_9_10, su_10_1, su_10_2, su_10_3, su_10_4, su_10_5, su_10_6, su_10_7, su_10_8, su_10_9]
  refine jJ_aload_n (pc := 4) dX3_isTooMuch_4 rfl ?_
  refine jJ_geti (pc := 5) dX3_isTooMuch_5 fX3_55 rfl (by assumption) ?_
  try simp only [rdM_g1, rdM_g2, rdM_g3, rdM_g4, rdM_g5, rdM_g6, rdM_g7, rdM_g8, rdM_g9, rdM_g10, rdM_p1, rdM_p2, rdM_p3, rdM_p4, rdM_p5, rdM_p6, rdM_p7, rdM_p8, rdM_p9, rdM_p10, rdM_r, rdM_w, su_s, su_1_2, su_1_3, su_1_4, su_1_5, su_1_6, su_1_7, su_1_8, su_1_9, su_1_10, su_2_1, su_2_3, su_2_4, su_2_5, su_2_6, su_2_7, su_2_8, su_2_9, su_2_10, su_3_1, su_3_2, su_3_4, su_3_5, su_3_6, su_3_7, su_3_8, su_3_9, su_3_10, su_4_1, su_4_2, su_4_3, su_4_5, su_4_6, su_4_7, su_4_8, su_4_9, su_4_10, su_5_1, su_5_2, su_5_3, su_5_4, su_5_6, su_5_7, su_5_8, su_5_9, su_5_10, su_6_1, su_6_2, su_6_3, su_6_4, su_6_5, su_6_7, su_6_8, su_6_9, su_6_10, su_7_1, su_7_2, su_7_3, su_7_4, su_7_5, su_7_6, su_7_8, su_7_9, su_7_10, su_8_1, su_8_2, su_8_3, su_8_4, su_8_5, su_8_6, su_8_7, su_8_9, su_8_10, su_9_1, su_9_2, su_9_3, su_9_4, su_9_5, su_9_6, su_9_7, su_9_8, su_9_10, su_10_1, su_10_2, su_10_3, su_10_4, su_10_5, su_10_6, su_10_7, su_10_8, su_10_9]
  refine jJ_isub (pc := 8) dX3_isTooMuch_8 ⟨by omega, by omega⟩ ?_
  refine jJ_istore_n (pc := 9) (ls' := [_, _, _]) dX3_isTooMuch_9 (Nat.le_of_ble_eq_true rfl) rfl ?_
  refine jJ_aload_n (pc := 10) dX3_isTooMuch_10 rfl ?_
  refine jJ_callVd (pc := 11) (as := []) dX3_isTooMuch_11 mX3_73 (jRcv_of (by assumption) rfl rfl) (Nat.le_of_ble_eq_true rfl) (jRm_ok (by omega) (by decide)) (c_Text_isFull (d := d - 1) hx) ?_
  try simp only [rdM_g1, rdM_g2, rdM_g3, rdM_g4, rdM_g5, rdM_g6, rdM_g7, rdM_g8, rdM_g9, rdM_g10, rdM_p1, rdM_p2, rdM_p3, rdM_p4, rdM_p5, rdM_p6, rdM_p7, rdM_p8, rdM_p9, rdM_p10, rdM_r, rdM_w, su_s, su_1_2, su_1_3, su_1_4, su_1_5, su_1_6, su_1_7, su_1_8, su_1_9, su_1_10, su_2_1, su_2_3, su_2_4, su_2_5, su_2_6, su_2_7, su_2_8, su_2_9, su_2_10, su_3_1, su_3_2, su_3_4, su_3_5, su_3_6, su_3_7, su_3_8, su_3_9, su_3_10, su_4_1, su_4_2, su_4_3, su_4_5, su_4_6, su_4_7, su_4_8, su_4_9, su_4_10, su_5_1, su_5_2, su_5_3, su_5_4, su_5_6, su_5_7, su_5_8, su_5_9, su_5_10, su_6_1, su_6_2, su_6_3, su_6_4, su_6_5, su_6_7, su_6_8, su_6_9, su_6_10, su_7_1, su_7_2, su_7_3, su_7_4, su_7_5, su_7_6, su_7_8, su_7_9, su_7_10, su_8_1, su_8_2, su_8_3, su_8_4, su_8_5, su_8_6, su_8_7, su_8_9, su_8_10, su_9_1, su_9_2, su_9_3, su_9_4, su_9_5, su_9_6, su_9_7, su_9_8, su_9_10, su_10_1, su_10_2, su_10_3, su_10_4, su_10_5, su_10_6, su_10_7, su_10_8, su_10_9]
  rw [rdM_x n1 n2]
  refine jJ_if_ne (pc := 14) (tgt := 52) dX3_isTooMuch_14 (by decide) (fun c14 => ?_) (fun c14 => ?_)
  · try simp only [jb_z, jb_nz] at c14
    refine jJ_iconst (pc := 52) dX3_isTooMuch_52 (by decide) ?_
    refine jJ_goto (pc := 53) (tgt := 57) dX3_isTooMuch_53 (by decide) ?_
    refine jJ_zret (pc := 57) dX3_isTooMuch_57 rfl (by decide) ?_
    first | (exfalso; omega) | exact ⟨by first | rw [← jb_t (by omega)] | rw [← jb_f (by omega)], rfl, rfl⟩
  · try simp only [jb_z, jb_nz] at c14
    refine jJ_aload_n (pc := 17) dX3_isTooMuch_17 rfl ?_
    refine jJ_geti (pc := 18) dX3_isTooMuch_18 fX3_25 rfl (by assumption) ?_
    try simp only [rdM_g1, rdM_g2, rdM_g3, rdM_g4, rdM_g5, rdM_g6, rdM_g7, rdM_g8, rdM_g9, rdM_g10, rdM_p1, rdM_p2, rdM_p3, rdM_p4, rdM_p5, rdM_p6, rdM_p7, rdM_p8, rdM_p9, rdM_p10, rdM_r, rdM_w, su_s, su_1_2, su_1_3, su_1_4, su_1_5, su_1_6, su_1_7, su_1_8, su_1_9, su_1_10, su_2_1, su_2_3, su_2_4, su_2_5, su_2_6, su_2_7, su_2_8, su_2_9, su_2_10, su_3_1, su_3_2, su_3_4, su_3_5, su_3_6, su_3_7, su_3_8, su_3_9, su_3_10, su_4_1, su_4_2, su_4_3, su_4_5, su_4_6, su_4_7, su_4_8, su_4_9, su_4_10, su_5_1, su_5_2, su_5_3, su_5_4, su_5_6, su_5_7, su_5_8, su_5_9, su_5_10, su_6_1, su_6_2, su_6_3, su_6_4, su_6_5, su_6_7, su_6_8, su_6_9, su_6_10, su_7_1, su_7_2, su_7_3, su_7_4, su_7_5, su_7_6, su_7_8, su_7_9, su_7_10, su_8_1, su_8_2, su_8_3, su_8_4, su_8_5, su_8_6, su_8_7, su_8_9, su_8_10, su_9_1, su_9_2, su_9_3, su_9_4, su_9_5, su_9_6, su_9_7, su_9_8, su_9_10, su_10_1, su_10_2, su_10_3, su_10_4, su_10_5, su_10_6, su_10_7, su_10_8, su_10_9]
    refine jJ_if_ne (pc := 21) (tgt := 52) dX3_isTooMuch_21 (by decide) (fun c21 => ?_) (fun c21 => ?_)
    · try simp only [jb_z, jb_nz] at c21
      refine jJ_iconst (pc := 52) dX3_isTooMuch_52 (by decide) ?_
      refine jJ_goto (pc := 53) (tgt := 57) dX3_isTooMuch_53 (by decide) ?_
      refine jJ_zret (pc := 57) dX3_isTooMuch_57 rfl (by decide) ?_
      first | (exfalso; omega) | exact ⟨by first | rw [← jb_t (by omega)] | rw [← jb_f (by omega)], rfl, rfl⟩
    · try simp only [jb_z, jb_nz] at c21
      refine jJ_aload_n (pc := 24) dX3_isTooMuch_24 rfl ?_
      refine jJ_geti (pc := 25) dX3_isTooMuch_25 fX3_45 rfl (by assumption) ?_
      try simp only [rdM_g1, rdM_g2, rdM_g3, rdM_g4, rdM_g5, rdM_g6, rdM_g7, rdM_g8, rdM_g9, rdM_g10, rdM_p1, rdM_p2, rdM_p3, rdM_p4, rdM_p5, rdM_p6, rdM_p7, rdM_p8, rdM_p9, rdM_p10, rdM_r, rdM_w, su_s, su_1_2, su_1_3, su_1_4, su_1_5, su_1_6, su_1_7, su_1_8, su_1_9, su_1_10, su_2_1, su_2_3, su_2_4, su_2_5, su_2_6, su_2_7, su_2_8, su_2_9, su_2_10, su_3_1, su_3_2, su_3_4, su_3_5, su_3_6, su_3_7, su_3_8, su_3_9, su_3_10, su_4_1, su_4_2, su_4_3, su_4_5, su_4_6, su_4_7, su_4_8, su_4_9, su_4_10, su_5_1, su_5_2, su_5_3, su_5_4, su_5_6, su_5_7, su_5_8, su_5_9, su_5_10, su_6_1, su_6_2, su_6_3, su_6_4, su_6_5, su_6_7, su_6_8, su_6_9, su_6_10, su_7_1, su_7_2, su_7_3, su_7_4, su_7_5, su_7_6, su_7_8, su_7_9, su_7_10, su_8_1, su_8_2, su_8_3, su_8_4, su_8_5, su_8_6, su_8_7, su_8_9, su_8_10, su_9_1, su_9_2, su_9_3, su_9_4, su_9_5, su_9_6, su_9_7, su_9_8, su_9_10, su_10_1, su_10_2, su_10_3, su_10_4, su_10_5, su_10_6, su_10_7, su_10_8, su_10_9]
      refine jJ_iconst (pc := 28) dX3_isTooMuch_28 (by decide) ?_
      refine jJ_icmp_ne (pc := 29) (tgt := 38) dX3_isTooMuch_29 (by decide) (fun c29 => ?_) (fun c29 => ?_)
      · try simp only [jb_z, jb_nz] at c29
        refine jJ_aload_n (pc := 38) dX3_isTooMuch_38 rfl ?_
        refine jJ_geti (pc := 39) dX3_isTooMuch_39 fX3_45 rfl (by assumption) ?_
        try simp only [rdM_g1, rdM_g2, rdM_g3, rdM_g4, rdM_g5, rdM_g6, rdM_g7, rdM_g8, rdM_g9, rdM_g10, rdM_p1, rdM_p2, rdM_p3, rdM_p4, rdM_p5, rdM_p6, rdM_p7, rdM_p8, rdM_p9, rdM_p10, rdM_r, rdM_w, su_s, su_1_2, su_1_3, su_1_4, su_1_5, su_1_6, su_1_7, su_1_8, su_1_9, su_1_10, su_2_1, su_2_3, su_2_4, su_2_5, su_2_6, su_2_7, su_2_8, su_2_9, su_2_10, su_3_1, su_3_2, su_3_4, su_3_5, su_3_6, su_3_7, su_3_8, su_3_9, su_3_10, su_4_1, su_4_2, su_4_3, su_4_5, su_4_6, su_4_7, su_4_8, su_4_9, su_4_10, su_5_1, su_5_2, su_5_3, su_5_4, su_5_6, su_5_7, su_5_8, su_5_9, su_5_10, su_6_1, su_6_2, su_6_3, su_6_4, su_6_5, su_6_7, su_6_8, su_6_9, su_6_10, su_7_1, su_7_2, su_7_3, su_7_4, su_7_5, su_7_6, su_7_8, su_7_9, su_7_10, su_8_1, su_8_2, su_8_3, su_8_4, su_8_5, su_8_6, su_8_7, su_8_9, su_8_10, su_9_1, su_9_2, su_9_3, su_9_4, su_9_5, su_9_6, su_9_7, su_9_8, su_9_10, su_10_1, su_10_2, su_10_3, su_10_4, su_10_5, su_10_6, su_10_7, su_10_8, su_10_9]
        refine jJ_iconst (pc := 42) dX3_isTooMuch_42 (by decide) ?_
        refine jJ_icmp_ne (pc := 43) (tgt := 56) dX3_isTooMuch_43 (by decide) (fun c43 => ?_) (fun c43 => ?_)
        · try simp only [jb_z, jb_nz] at c43
          refine jJ_iconst (pc := 56) dX3_isTooMuch_56 (by decide) ?_
          refine jJ_zret (pc := 57) dX3_isTooMuch_57 rfl (by decide) ?_
          first | (exfalso; omega) | exact ⟨by first | rw [← jb_t (by omega)] | rw [← jb_f (by omega)], rfl, rfl⟩
        · try simp only [jb_z, jb_nz] at c43
          refine jJ_iload_n (pc := 46) dX3_isTooMuch_46 rfl ?_
          refine jJ_bipush (pc := 47) dX3_isTooMuch_47 (by decide) ?_
          refine jJ_icmp_le (pc := 49) (tgt := 56) dX3_isTooMuch_49 (by decide) (fun c49 => ?_) (fun c49 => ?_)
          · try simp only [jb_z, jb_nz] at c49
            refine jJ_iconst (pc := 56) dX3_isTooMuch_56 (by decide) ?_
            refine jJ_zret (pc := 57) dX3_isTooMuch_57 rfl (by decide) ?_
            first | (exfalso; omega) | exact ⟨by first | rw [← jb_t (by omega)] | rw [← jb_f (by omega)], rfl, rfl⟩
          · try simp only [jb_z, jb_nz] at c49
            refine jJ_iconst (pc := 52) dX3_isTooMuch_52 (by decide) ?_
            refine jJ_goto (pc := 53) (tgt := 57) dX3_isTooMuch_53 (by decide) ?_
            refine jJ_zret (pc := 57) dX3_isTooMuch_57 rfl (by decide) ?_
            first | (exfalso; omega) | exact ⟨by first | rw [← jb_t (by omega)] | rw [← jb_f (by omega)], rfl, rfl⟩
      · try simp only [jb_z, jb_nz] at c29
        refine jJ_iload_n (pc := 32) dX3_isTooMuch_32 rfl ?_
        refine jJ_bipush (pc := 33) dX3_isTooMuch_33 (by decide) ?_
        refine jJ_icmp_gt (pc := 35) (tgt := 52) dX3_isTooMuch_35 (by decide) (fun c35 => ?_) (fun c35 => ?_)
        · try simp only [jb_z, jb_nz] at c35
          refine jJ_iconst (pc := 52) dX3_isTooMuch_52 (by decide) ?_
          refine jJ_goto (pc := 53) (tgt := 57) dX3_isTooMuch_53 (by decide) ?_
          refine jJ_zret (pc := 57) dX3_isTooMuch_57 rfl (by decide) ?_
          first | (exfalso; omega) | exact ⟨by first | rw [← jb_t (by omega)] | rw [← jb_f (by omega)], rfl, rfl⟩
        · try simp only [jb_z, jb_nz] at c35
          refine jJ_aload_n (pc := 38) dX3_isTooMuch_38 rfl ?_
          refine jJ_geti (pc := 39) dX3_isTooMuch_39 fX3_45 rfl (by assumption) ?_
          try simp only [rdM_g1, rdM_g2, rdM_g3, rdM_g4, rdM_g5, rdM_g6, rdM_g7, rdM_g8, rdM_g9, rdM_g10, rdM_p1, rdM_p2, rdM_p3, rdM_p4, rdM_p5, rdM_p6, rdM_p7, rdM_p8, rdM_p9, rdM_p10, rdM_r, rdM_w, su_s, su_1_2, su_1_3, su_1_4, su_1_5, su_1_6, su_1_7, su_1_8, su_1_9, su_1_10, su_2_1, su_2_3, su_2_4, su_2_5, su_2_6, su_2_7, su_2_8, su_2_9, su_2_10, su_3_1, su_3_2, su_3_4, su_3_5, su_3_6, su_3_7, su_3_8, su_3_9, su_3_10, su_4_1, su_4_2, su_4_3, su_4_5, su_4_6, su_4_7, su_4_8, su_4_9, su_4_10, su_5_1, su_5_2, su_5_3, su_5_4, su_5_6, su_5_7, su_5_8, su_5_9, su_5_10, su_6_1, su_6_2, su_6_3, su_6_4, su_6_5, su_6_7, su_6_8, su_6_9, su_6_10, su_7_1, su_7_2, su_7_3, su_7_4, su_7_5, su_7_6, su_7_8, su_7_9, su_7_10, su_8_1, su_8_2, su_8_3, su_8_4, su_8_5, su_8_6, su_8_7, su_8_9, su_8_10, su_9_1, su_9_2, su_9_3, su_9_4, su_9_5, su_9_6, su_9_7, su_9_8, su_9_10, su_10_1, su_10_2, su_10_3, su_10_4, su_10_5, su_10_6, su_10_7, su_10_8, su_10_9]
          refine jJ_iconst (pc := 42) dX3_isTooMuch_42 (by decide) ?_
          refine jJ_icmp_ne (pc := 43) (tgt := 56) dX3_isTooMuch_43 (by decide) (fun c43 => ?_) (fun c43 => ?_)
          · try simp only [jb_z, jb_nz] at c43
            refine jJ_iconst (pc := 56) dX3_isTooMuch_56 (by decide) ?_
            refine jJ_zret (pc := 57) dX3_isTooMuch_57 rfl (by decide) ?_
            first | (exfalso; omega) | exact ⟨by first | rw [← jb_t (by omega)] | rw [← jb_f (by omega)], rfl, rfl⟩
          · try simp only [jb_z, jb_nz] at c43
            refine jJ_iload_n (pc := 46) dX3_isTooMuch_46 rfl ?_
            refine jJ_bipush (pc := 47) dX3_isTooMuch_47 (by decide) ?_
            refine jJ_icmp_le (pc := 49) (tgt := 56) dX3_isTooMuch_49 (by decide) (fun c49 => ?_) (fun c49 => ?_)
            · try simp only [jb_z, jb_nz] at c49
              refine jJ_iconst (pc := 56) dX3_isTooMuch_56 (by decide) ?_
              refine jJ_zret (pc := 57) dX3_isTooMuch_57 rfl (by decide) ?_
              first | (exfalso; omega) | exact ⟨by first | rw [← jb_t (by omega)] | rw [← jb_f (by omega)], rfl, rfl⟩
            · try simp only [jb_z, jb_nz] at c49
              refine jJ_iconst (pc := 52) dX3_isTooMuch_52 (by decide) ?_
              refine jJ_goto (pc := 53) (tgt := 57) dX3_isTooMuch_53 (by decide) ?_
              refine jJ_zret (pc := 57) dX3_isTooMuch_57 rfl (by decide) ?_
              first | (exfalso; omega) | exact ⟨by first | rw [← jb_t (by omega)] | rw [← jb_f (by omega)], rfl, rfl⟩
end JStd
