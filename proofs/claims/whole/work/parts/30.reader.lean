section JRd
variable {E : jE} {I : jI} {P : jP} {d : Nat}
/-- the reader's object over a memory: its ten numbers, its row of what stands open -/
def rdM (I : jI) (rd op : Nat) (s r : Nat → Int) : jI := fun a k => if a = rd ∧ 1 ≤ k ∧ k ≤ 10 then s k else if a = op ∧ k < 6 then r k else I a k
def su (s : Nat → Int) (k : Nat) (v : Int) : Nat → Int := fun j => if j = k then v else s j
theorem su_s (s : Nat → Int) (k : Nat) (v : Int) : su s k v k = v := by simp [su]
theorem rdM_x {I : jI} {rd op a : Nat} {s r : Nat → Int} (h1 : a ≠ rd) (h2 : a ≠ op) (k : Nat) : rdM I rd op s r a k = I a k := by simp [rdM, h1, h2]
theorem rdM_g {I : jI} {rd op k : Nat} {s r : Nat → Int} (h : 1 ≤ k ∧ k ≤ 10) : rdM I rd op s r rd k = s k := by simp [rdM, h]
theorem rdM_p {I : jI} {rd op k : Nat} {s r : Nat → Int} {v : Int} (h : 1 ≤ k ∧ k ≤ 10) : jput (rdM I rd op s r) rd k v = rdM I rd op (su s k v) r := by
  funext a j
  simp only [jput, rdM, su]
  by_cases ha : a = rd
  · subst ha
    by_cases hj : j = k
    · subst hj; simp [h]
    · simp [hj]
  · simp [ha]
theorem rdM_rr {I : jI} {rd op k : Nat} {s r : Nat → Int} (hne : rd ≠ op) (h : k < 6) : rdM I rd op s r op k = r k := by simp [rdM, Ne.symm hne, h]
theorem rdM_ww {I : jI} {rd op k : Nat} {s r : Nat → Int} {v : Int} (hne : rd ≠ op) (h : k < 6) : jput (rdM I rd op s r) op k v = rdM I rd op s (su r k v) := by
  funext a j
  simp only [jput, rdM, su]
  by_cases ha : a = op
  · subst ha
    by_cases hj : j = k
    · subst hj; simp [h, Ne.symm hne]
    · simp [hj, Ne.symm hne]
  · simp [ha]
theorem rdM_g1 (I : jI) (rd op : Nat) (s r : Nat → Int) : rdM I rd op s r rd 1 = s 1 := rdM_g (by decide)
theorem rdM_p1 (I : jI) (rd op : Nat) (s r : Nat → Int) (v : Int) : jput (rdM I rd op s r) rd 1 v = rdM I rd op (su s 1 v) r := rdM_p (by decide)
theorem rdM_g2 (I : jI) (rd op : Nat) (s r : Nat → Int) : rdM I rd op s r rd 2 = s 2 := rdM_g (by decide)
theorem rdM_p2 (I : jI) (rd op : Nat) (s r : Nat → Int) (v : Int) : jput (rdM I rd op s r) rd 2 v = rdM I rd op (su s 2 v) r := rdM_p (by decide)
theorem rdM_g3 (I : jI) (rd op : Nat) (s r : Nat → Int) : rdM I rd op s r rd 3 = s 3 := rdM_g (by decide)
theorem rdM_p3 (I : jI) (rd op : Nat) (s r : Nat → Int) (v : Int) : jput (rdM I rd op s r) rd 3 v = rdM I rd op (su s 3 v) r := rdM_p (by decide)
theorem rdM_g4 (I : jI) (rd op : Nat) (s r : Nat → Int) : rdM I rd op s r rd 4 = s 4 := rdM_g (by decide)
theorem rdM_p4 (I : jI) (rd op : Nat) (s r : Nat → Int) (v : Int) : jput (rdM I rd op s r) rd 4 v = rdM I rd op (su s 4 v) r := rdM_p (by decide)
theorem rdM_g5 (I : jI) (rd op : Nat) (s r : Nat → Int) : rdM I rd op s r rd 5 = s 5 := rdM_g (by decide)
theorem rdM_p5 (I : jI) (rd op : Nat) (s r : Nat → Int) (v : Int) : jput (rdM I rd op s r) rd 5 v = rdM I rd op (su s 5 v) r := rdM_p (by decide)
theorem rdM_g6 (I : jI) (rd op : Nat) (s r : Nat → Int) : rdM I rd op s r rd 6 = s 6 := rdM_g (by decide)
theorem rdM_p6 (I : jI) (rd op : Nat) (s r : Nat → Int) (v : Int) : jput (rdM I rd op s r) rd 6 v = rdM I rd op (su s 6 v) r := rdM_p (by decide)
theorem rdM_g7 (I : jI) (rd op : Nat) (s r : Nat → Int) : rdM I rd op s r rd 7 = s 7 := rdM_g (by decide)
theorem rdM_p7 (I : jI) (rd op : Nat) (s r : Nat → Int) (v : Int) : jput (rdM I rd op s r) rd 7 v = rdM I rd op (su s 7 v) r := rdM_p (by decide)
theorem rdM_g8 (I : jI) (rd op : Nat) (s r : Nat → Int) : rdM I rd op s r rd 8 = s 8 := rdM_g (by decide)
theorem rdM_p8 (I : jI) (rd op : Nat) (s r : Nat → Int) (v : Int) : jput (rdM I rd op s r) rd 8 v = rdM I rd op (su s 8 v) r := rdM_p (by decide)
theorem rdM_g9 (I : jI) (rd op : Nat) (s r : Nat → Int) : rdM I rd op s r rd 9 = s 9 := rdM_g (by decide)
theorem rdM_p9 (I : jI) (rd op : Nat) (s r : Nat → Int) (v : Int) : jput (rdM I rd op s r) rd 9 v = rdM I rd op (su s 9 v) r := rdM_p (by decide)
theorem rdM_g10 (I : jI) (rd op : Nat) (s r : Nat → Int) : rdM I rd op s r rd 10 = s 10 := rdM_g (by decide)
theorem rdM_p10 (I : jI) (rd op : Nat) (s r : Nat → Int) (v : Int) : jput (rdM I rd op s r) rd 10 v = rdM I rd op (su s 10 v) r := rdM_p (by decide)
theorem su_1_2 (s : Nat → Int) (v : Int) : su s 2 v 1 = s 1 := rfl
theorem su_1_3 (s : Nat → Int) (v : Int) : su s 3 v 1 = s 1 := rfl
theorem su_1_4 (s : Nat → Int) (v : Int) : su s 4 v 1 = s 1 := rfl
theorem su_1_5 (s : Nat → Int) (v : Int) : su s 5 v 1 = s 1 := rfl
theorem su_1_6 (s : Nat → Int) (v : Int) : su s 6 v 1 = s 1 := rfl
theorem su_1_7 (s : Nat → Int) (v : Int) : su s 7 v 1 = s 1 := rfl
theorem su_1_8 (s : Nat → Int) (v : Int) : su s 8 v 1 = s 1 := rfl
theorem su_1_9 (s : Nat → Int) (v : Int) : su s 9 v 1 = s 1 := rfl
theorem su_1_10 (s : Nat → Int) (v : Int) : su s 10 v 1 = s 1 := rfl
theorem su_2_1 (s : Nat → Int) (v : Int) : su s 1 v 2 = s 2 := rfl
theorem su_2_3 (s : Nat → Int) (v : Int) : su s 3 v 2 = s 2 := rfl
theorem su_2_4 (s : Nat → Int) (v : Int) : su s 4 v 2 = s 2 := rfl
theorem su_2_5 (s : Nat → Int) (v : Int) : su s 5 v 2 = s 2 := rfl
theorem su_2_6 (s : Nat → Int) (v : Int) : su s 6 v 2 = s 2 := rfl
theorem su_2_7 (s : Nat → Int) (v : Int) : su s 7 v 2 = s 2 := rfl
theorem su_2_8 (s : Nat → Int) (v : Int) : su s 8 v 2 = s 2 := rfl
theorem su_2_9 (s : Nat → Int) (v : Int) : su s 9 v 2 = s 2 := rfl
theorem su_2_10 (s : Nat → Int) (v : Int) : su s 10 v 2 = s 2 := rfl
theorem su_3_1 (s : Nat → Int) (v : Int) : su s 1 v 3 = s 3 := rfl
theorem su_3_2 (s : Nat → Int) (v : Int) : su s 2 v 3 = s 3 := rfl
theorem su_3_4 (s : Nat → Int) (v : Int) : su s 4 v 3 = s 3 := rfl
theorem su_3_5 (s : Nat → Int) (v : Int) : su s 5 v 3 = s 3 := rfl
theorem su_3_6 (s : Nat → Int) (v : Int) : su s 6 v 3 = s 3 := rfl
theorem su_3_7 (s : Nat → Int) (v : Int) : su s 7 v 3 = s 3 := rfl
theorem su_3_8 (s : Nat → Int) (v : Int) : su s 8 v 3 = s 3 := rfl
theorem su_3_9 (s : Nat → Int) (v : Int) : su s 9 v 3 = s 3 := rfl
theorem su_3_10 (s : Nat → Int) (v : Int) : su s 10 v 3 = s 3 := rfl
theorem su_4_1 (s : Nat → Int) (v : Int) : su s 1 v 4 = s 4 := rfl
theorem su_4_2 (s : Nat → Int) (v : Int) : su s 2 v 4 = s 4 := rfl
theorem su_4_3 (s : Nat → Int) (v : Int) : su s 3 v 4 = s 4 := rfl
theorem su_4_5 (s : Nat → Int) (v : Int) : su s 5 v 4 = s 4 := rfl
theorem su_4_6 (s : Nat → Int) (v : Int) : su s 6 v 4 = s 4 := rfl
theorem su_4_7 (s : Nat → Int) (v : Int) : su s 7 v 4 = s 4 := rfl
theorem su_4_8 (s : Nat → Int) (v : Int) : su s 8 v 4 = s 4 := rfl
theorem su_4_9 (s : Nat → Int) (v : Int) : su s 9 v 4 = s 4 := rfl
theorem su_4_10 (s : Nat → Int) (v : Int) : su s 10 v 4 = s 4 := rfl
theorem su_5_1 (s : Nat → Int) (v : Int) : su s 1 v 5 = s 5 := rfl
theorem su_5_2 (s : Nat → Int) (v : Int) : su s 2 v 5 = s 5 := rfl
theorem su_5_3 (s : Nat → Int) (v : Int) : su s 3 v 5 = s 5 := rfl
theorem su_5_4 (s : Nat → Int) (v : Int) : su s 4 v 5 = s 5 := rfl
theorem su_5_6 (s : Nat → Int) (v : Int) : su s 6 v 5 = s 5 := rfl
theorem su_5_7 (s : Nat → Int) (v : Int) : su s 7 v 5 = s 5 := rfl
theorem su_5_8 (s : Nat → Int) (v : Int) : su s 8 v 5 = s 5 := rfl
theorem su_5_9 (s : Nat → Int) (v : Int) : su s 9 v 5 = s 5 := rfl
theorem su_5_10 (s : Nat → Int) (v : Int) : su s 10 v 5 = s 5 := rfl
theorem su_6_1 (s : Nat → Int) (v : Int) : su s 1 v 6 = s 6 := rfl
theorem su_6_2 (s : Nat → Int) (v : Int) : su s 2 v 6 = s 6 := rfl
theorem su_6_3 (s : Nat → Int) (v : Int) : su s 3 v 6 = s 6 := rfl
theorem su_6_4 (s : Nat → Int) (v : Int) : su s 4 v 6 = s 6 := rfl
theorem su_6_5 (s : Nat → Int) (v : Int) : su s 5 v 6 = s 6 := rfl
theorem su_6_7 (s : Nat → Int) (v : Int) : su s 7 v 6 = s 6 := rfl
theorem su_6_8 (s : Nat → Int) (v : Int) : su s 8 v 6 = s 6 := rfl
theorem su_6_9 (s : Nat → Int) (v : Int) : su s 9 v 6 = s 6 := rfl
theorem su_6_10 (s : Nat → Int) (v : Int) : su s 10 v 6 = s 6 := rfl
theorem su_7_1 (s : Nat → Int) (v : Int) : su s 1 v 7 = s 7 := rfl
theorem su_7_2 (s : Nat → Int) (v : Int) : su s 2 v 7 = s 7 := rfl
theorem su_7_3 (s : Nat → Int) (v : Int) : su s 3 v 7 = s 7 := rfl
theorem su_7_4 (s : Nat → Int) (v : Int) : su s 4 v 7 = s 7 := rfl
theorem su_7_5 (s : Nat → Int) (v : Int) : su s 5 v 7 = s 7 := rfl
theorem su_7_6 (s : Nat → Int) (v : Int) : su s 6 v 7 = s 7 := rfl
theorem su_7_8 (s : Nat → Int) (v : Int) : su s 8 v 7 = s 7 := rfl
theorem su_7_9 (s : Nat → Int) (v : Int) : su s 9 v 7 = s 7 := rfl
theorem su_7_10 (s : Nat → Int) (v : Int) : su s 10 v 7 = s 7 := rfl
theorem su_8_1 (s : Nat → Int) (v : Int) : su s 1 v 8 = s 8 := rfl
theorem su_8_2 (s : Nat → Int) (v : Int) : su s 2 v 8 = s 8 := rfl
theorem su_8_3 (s : Nat → Int) (v : Int) : su s 3 v 8 = s 8 := rfl
theorem su_8_4 (s : Nat → Int) (v : Int) : su s 4 v 8 = s 8 := rfl
theorem su_8_5 (s : Nat → Int) (v : Int) : su s 5 v 8 = s 8 := rfl
theorem su_8_6 (s : Nat → Int) (v : Int) : su s 6 v 8 = s 8 := rfl
theorem su_8_7 (s : Nat → Int) (v : Int) : su s 7 v 8 = s 8 := rfl
theorem su_8_9 (s : Nat → Int) (v : Int) : su s 9 v 8 = s 8 := rfl
theorem su_8_10 (s : Nat → Int) (v : Int) : su s 10 v 8 = s 8 := rfl
theorem su_9_1 (s : Nat → Int) (v : Int) : su s 1 v 9 = s 9 := rfl
theorem su_9_2 (s : Nat → Int) (v : Int) : su s 2 v 9 = s 9 := rfl
theorem su_9_3 (s : Nat → Int) (v : Int) : su s 3 v 9 = s 9 := rfl
theorem su_9_4 (s : Nat → Int) (v : Int) : su s 4 v 9 = s 9 := rfl
theorem su_9_5 (s : Nat → Int) (v : Int) : su s 5 v 9 = s 9 := rfl
theorem su_9_6 (s : Nat → Int) (v : Int) : su s 6 v 9 = s 9 := rfl
theorem su_9_7 (s : Nat → Int) (v : Int) : su s 7 v 9 = s 9 := rfl
theorem su_9_8 (s : Nat → Int) (v : Int) : su s 8 v 9 = s 9 := rfl
theorem su_9_10 (s : Nat → Int) (v : Int) : su s 10 v 9 = s 9 := rfl
theorem su_10_1 (s : Nat → Int) (v : Int) : su s 1 v 10 = s 10 := rfl
theorem su_10_2 (s : Nat → Int) (v : Int) : su s 2 v 10 = s 10 := rfl
theorem su_10_3 (s : Nat → Int) (v : Int) : su s 3 v 10 = s 10 := rfl
theorem su_10_4 (s : Nat → Int) (v : Int) : su s 4 v 10 = s 10 := rfl
theorem su_10_5 (s : Nat → Int) (v : Int) : su s 5 v 10 = s 10 := rfl
theorem su_10_6 (s : Nat → Int) (v : Int) : su s 6 v 10 = s 10 := rfl
theorem su_10_7 (s : Nat → Int) (v : Int) : su s 7 v 10 = s 10 := rfl
theorem su_10_8 (s : Nat → Int) (v : Int) : su s 8 v 10 = s 10 := rfl
theorem su_10_9 (s : Nat → Int) (v : Int) : su s 9 v 10 = s 10 := rfl
theorem rdM_r : True := trivial
theorem rdM_w : True := trivial
/-- how the reader's object lies -/
def RdL (E : jE) (P : jP) (rd op : Nat) : Prop := jK E 3 rd ∧ P rd 0 = some op ∧ jAr E 9 op 6
theorem RdL.ne {rd op : Nat} (h : RdL E P rd op) : rd ≠ op := jne h.1.2 h.2.2.2.1 (by decide)
variable {rd op : Nat} {s r : Nat → Int}
theorem c_Rd_faultAt {f w : Int} (h : RdL E P rd op) : jC E yX3_faultAt cX3_faultAt 3 (some .int) d [jp rd, ji f, ji w] (rdM I rd op s r) P (jD (some (ji f)) (rdM I rd op (su s 7 w) r) P) := by
  have h0 := h.1
  refine jC_intro (by decide +kernel) (by simp [jc, va_rf, Value.category]) (Nat.le_of_ble_eq_true rfl) ?_
  refine jJ_aload_n (pc := 0) dX3_faultAt_0 rfl ?_
  refine jJ_iload_n (pc := 1) dX3_faultAt_1 rfl ?_
  refine jJ_puti (pc := 2) dX3_faultAt_2 fX3_15w rfl ⟨rfl, rfl⟩ (by assumption) ?_
  try simp only [rdM_g1, rdM_g2, rdM_g3, rdM_g4, rdM_g5, rdM_g6, rdM_g7, rdM_g8, rdM_g9, rdM_g10, rdM_p1, rdM_p2, rdM_p3, rdM_p4, rdM_p5, rdM_p6, rdM_p7, rdM_p8, rdM_p9, rdM_p10, rdM_r, rdM_w, su_s, su_1_2, su_1_3, su_1_4, su_1_5, su_1_6, su_1_7, su_1_8, su_1_9, su_1_10, su_2_1, su_2_3, su_2_4, su_2_5, su_2_6, su_2_7, su_2_8, su_2_9, su_2_10, su_3_1, su_3_2, su_3_4, su_3_5, su_3_6, su_3_7, su_3_8, su_3_9, su_3_10, su_4_1, su_4_2, su_4_3, su_4_5, su_4_6, su_4_7, su_4_8, su_4_9, su_4_10, su_5_1, su_5_2, su_5_3, su_5_4, su_5_6, su_5_7, su_5_8, su_5_9, su_5_10, su_6_1, su_6_2, su_6_3, su_6_4, su_6_5, su_6_7, su_6_8, su_6_9, su_6_10, su_7_1, su_7_2, su_7_3, su_7_4, su_7_5, su_7_6, su_7_8, su_7_9, su_7_10, su_8_1, su_8_2, su_8_3, su_8_4, su_8_5, su_8_6, su_8_7, su_8_9, su_8_10, su_9_1, su_9_2, su_9_3, su_9_4, su_9_5, su_9_6, su_9_7, su_9_8, su_9_10, su_10_1, su_10_2, su_10_3, su_10_4, su_10_5, su_10_6, su_10_7, su_10_8, su_10_9]
  refine jJ_iload_n (pc := 5) dX3_faultAt_5 rfl ?_
  refine jJ_iret (pc := 6) dX3_faultAt_6 rfl ?_
  exact ⟨rfl, rfl, rfl⟩
theorem c_Rd_mayEnd (h : RdL E P rd op) : jC E yX3_mayEnd cX3_mayEnd 1 (some .boolean) d [jp rd] (rdM I rd op s r) P (jD (some (ji (jb (s 1 = 0 ∧ (s 4 = 0 ∨ s 4 = 1))))) (rdM I rd op s r) P) := by
  have h0 := h.1
  refine jC_intro (by decide +kernel) (by simp [jc, va_rf, Value.category]) (Nat.le_of_ble_eq_true rfl) ?_
  refine jJ_aload_n (pc := 0) dX3_mayEnd_0 rfl ?_
  refine jJ_geti (pc := 1) dX3_mayEnd_1 fX3_19 rfl (by assumption) ?_
  try simp only [rdM_g1, rdM_g2, rdM_g3, rdM_g4, rdM_g5, rdM_g6, rdM_g7, rdM_g8, rdM_g9, rdM_g10, rdM_p1, rdM_p2, rdM_p3, rdM_p4, rdM_p5, rdM_p6, rdM_p7, rdM_p8, rdM_p9, rdM_p10, rdM_r, rdM_w, su_s, su_1_2, su_1_3, su_1_4, su_1_5, su_1_6, su_1_7, su_1_8, su_1_9, su_1_10, su_2_1, su_2_3, su_2_4, su_2_5, su_2_6, su_2_7, su_2_8, su_2_9, su_2_10, su_3_1, su_3_2, su_3_4, su_3_5, su_3_6, su_3_7, su_3_8, su_3_9, su_3_10, su_4_1, su_4_2, su_4_3, su_4_5, su_4_6, su_4_7, su_4_8, su_4_9, su_4_10, su_5_1, su_5_2, su_5_3, su_5_4, su_5_6, su_5_7, su_5_8, su_5_9, su_5_10, su_6_1, su_6_2, su_6_3, su_6_4, su_6_5, su_6_7, su_6_8, su_6_9, su_6_10, su_7_1, su_7_2, su_7_3, su_7_4, su_7_5, su_7_6, su_7_8, su_7_9, su_7_10, su_8_1, su_8_2, su_8_3, su_8_4, su_8_5, su_8_6, su_8_7, su_8_9, su_8_10, su_9_1, su_9_2, su_9_3, su_9_4, su_9_5, su_9_6, su_9_7, su_9_8, su_9_10, su_10_1, su_10_2, su_10_3, su_10_4, su_10_5, su_10_6, su_10_7, su_10_8, su_10_9]
  refine jJ_if_ne (pc := 4) (tgt := 26) dX3_mayEnd_4 (by decide) (fun c4 => ?_) (fun c4 => ?_)
  · refine jJ_iconst (pc := 26) dX3_mayEnd_26 (by decide) ?_
    refine jJ_zret (pc := 27) dX3_mayEnd_27 rfl (by decide) ?_
    exact ⟨by first | rw [← jb_t (by omega)] | rw [← jb_f (by omega)], rfl, rfl⟩
  · refine jJ_aload_n (pc := 7) dX3_mayEnd_7 rfl ?_
    refine jJ_geti (pc := 8) dX3_mayEnd_8 fX3_29 rfl (by assumption) ?_
    try simp only [rdM_g1, rdM_g2, rdM_g3, rdM_g4, rdM_g5, rdM_g6, rdM_g7, rdM_g8, rdM_g9, rdM_g10, rdM_p1, rdM_p2, rdM_p3, rdM_p4, rdM_p5, rdM_p6, rdM_p7, rdM_p8, rdM_p9, rdM_p10, rdM_r, rdM_w, su_s, su_1_2, su_1_3, su_1_4, su_1_5, su_1_6, su_1_7, su_1_8, su_1_9, su_1_10, su_2_1, su_2_3, su_2_4, su_2_5, su_2_6, su_2_7, su_2_8, su_2_9, su_2_10, su_3_1, su_3_2, su_3_4, su_3_5, su_3_6, su_3_7, su_3_8, su_3_9, su_3_10, su_4_1, su_4_2, su_4_3, su_4_5, su_4_6, su_4_7, su_4_8, su_4_9, su_4_10, su_5_1, su_5_2, su_5_3, su_5_4, su_5_6, su_5_7, su_5_8, su_5_9, su_5_10, su_6_1, su_6_2, su_6_3, su_6_4, su_6_5, su_6_7, su_6_8, su_6_9, su_6_10, su_7_1, su_7_2, su_7_3, su_7_4, su_7_5, su_7_6, su_7_8, su_7_9, su_7_10, su_8_1, su_8_2, su_8_3, su_8_4, su_8_5, su_8_6, su_8_7, su_8_9, su_8_10, su_9_1, su_9_2, su_9_3, su_9_4, su_9_5, su_9_6, su_9_7, su_9_8, su_9_10, su_10_1, su_10_2, su_10_3, su_10_4, su_10_5, su_10_6, su_10_7, su_10_8, su_10_9]
    refine jJ_if_eq (pc := 11) (tgt := 22) dX3_mayEnd_11 (by decide) (fun c11 => ?_) (fun c11 => ?_)
    · refine jJ_iconst (pc := 22) dX3_mayEnd_22 (by decide) ?_
      refine jJ_goto (pc := 23) (tgt := 27) dX3_mayEnd_23 (by decide) ?_
      refine jJ_zret (pc := 27) dX3_mayEnd_27 rfl (by decide) ?_
      exact ⟨by first | rw [← jb_t (by omega)] | rw [← jb_f (by omega)], rfl, rfl⟩
    · refine jJ_aload_n (pc := 14) dX3_mayEnd_14 rfl ?_
      refine jJ_geti (pc := 15) dX3_mayEnd_15 fX3_29 rfl (by assumption) ?_
      try simp only [rdM_g1, rdM_g2, rdM_g3, rdM_g4, rdM_g5, rdM_g6, rdM_g7, rdM_g8, rdM_g9, rdM_g10, rdM_p1, rdM_p2, rdM_p3, rdM_p4, rdM_p5, rdM_p6, rdM_p7, rdM_p8, rdM_p9, rdM_p10, rdM_r, rdM_w, su_s, su_1_2, su_1_3, su_1_4, su_1_5, su_1_6, su_1_7, su_1_8, su_1_9, su_1_10, su_2_1, su_2_3, su_2_4, su_2_5, su_2_6, su_2_7, su_2_8, su_2_9, su_2_10, su_3_1, su_3_2, su_3_4, su_3_5, su_3_6, su_3_7, su_3_8, su_3_9, su_3_10, su_4_1, su_4_2, su_4_3, su_4_5, su_4_6, su_4_7, su_4_8, su_4_9, su_4_10, su_5_1, su_5_2, su_5_3, su_5_4, su_5_6, su_5_7, su_5_8, su_5_9, su_5_10, su_6_1, su_6_2, su_6_3, su_6_4, su_6_5, su_6_7, su_6_8, su_6_9, su_6_10, su_7_1, su_7_2, su_7_3, su_7_4, su_7_5, su_7_6, su_7_8, su_7_9, su_7_10, su_8_1, su_8_2, su_8_3, su_8_4, su_8_5, su_8_6, su_8_7, su_8_9, su_8_10, su_9_1, su_9_2, su_9_3, su_9_4, su_9_5, su_9_6, su_9_7, su_9_8, su_9_10, su_10_1, su_10_2, su_10_3, su_10_4, su_10_5, su_10_6, su_10_7, su_10_8, su_10_9]
      refine jJ_iconst (pc := 18) dX3_mayEnd_18 (by decide) ?_
      refine jJ_icmp_ne (pc := 19) (tgt := 26) dX3_mayEnd_19 (by decide) (fun c19 => ?_) (fun c19 => ?_)
      · refine jJ_iconst (pc := 26) dX3_mayEnd_26 (by decide) ?_
        refine jJ_zret (pc := 27) dX3_mayEnd_27 rfl (by decide) ?_
        exact ⟨by first | rw [← jb_t (by omega)] | rw [← jb_f (by omega)], rfl, rfl⟩
      · refine jJ_iconst (pc := 22) dX3_mayEnd_22 (by decide) ?_
        refine jJ_goto (pc := 23) (tgt := 27) dX3_mayEnd_23 (by decide) ?_
        refine jJ_zret (pc := 27) dX3_mayEnd_27 rfl (by decide) ?_
        exact ⟨by first | rw [← jb_t (by omega)] | rw [← jb_f (by omega)], rfl, rfl⟩
theorem c_Rd_isBlank {b : Int} : jC E yX3_isBlank cX3_isBlank 1 (some .boolean) d [ji b] I P (jD (some (ji (jb (b = 32 ∨ b = 10)))) I P) := by
  refine jC_intro (by decide +kernel) (by simp [jc, va_rf, Value.category]) (Nat.le_of_ble_eq_true rfl) ?_
  refine jJ_iload_n (pc := 0) dX3_isBlank_0 rfl ?_
  refine jJ_bipush (pc := 1) dX3_isBlank_1 (by decide) ?_
  refine jJ_icmp_eq (pc := 3) (tgt := 12) dX3_isBlank_3 (by decide) (fun c3 => ?_) (fun c3 => ?_)
  · refine jJ_iconst (pc := 12) dX3_isBlank_12 (by decide) ?_
    refine jJ_goto (pc := 13) (tgt := 17) dX3_isBlank_13 (by decide) ?_
    refine jJ_zret (pc := 17) dX3_isBlank_17 rfl (by decide) ?_
    exact ⟨by first | rw [← jb_t (by omega)] | rw [← jb_f (by omega)], rfl, rfl⟩
  · refine jJ_iload_n (pc := 6) dX3_isBlank_6 rfl ?_
    refine jJ_bipush (pc := 7) dX3_isBlank_7 (by decide) ?_
    refine jJ_icmp_ne (pc := 9) (tgt := 16) dX3_isBlank_9 (by decide) (fun c9 => ?_) (fun c9 => ?_)
    · refine jJ_iconst (pc := 16) dX3_isBlank_16 (by decide) ?_
      refine jJ_zret (pc := 17) dX3_isBlank_17 rfl (by decide) ?_
      exact ⟨by first | rw [← jb_t (by omega)] | rw [← jb_f (by omega)], rfl, rfl⟩
    · refine jJ_iconst (pc := 12) dX3_isBlank_12 (by decide) ?_
      refine jJ_goto (pc := 13) (tgt := 17) dX3_isBlank_13 (by decide) ?_
      refine jJ_zret (pc := 17) dX3_isBlank_17 rfl (by decide) ?_
      exact ⟨by first | rw [← jb_t (by omega)] | rw [← jb_f (by omega)], rfl, rfl⟩
def isWd (b : Int) : Prop := (97 ≤ b ∧ b ≤ 122) ∨ (65 ≤ b ∧ b ≤ 90) ∨ (48 ≤ b ∧ b ≤ 57) ∨ b = 95
theorem c_Rd_isOfWord {b : Int} (hd : 1 ≤ d) : jC E yX3_isOfWord cX3_isOfWord 1 (some .boolean) d [ji b] I P (jD (some (ji (jb ((97 ≤ b ∧ b ≤ 122) ∨ (65 ≤ b ∧ b ≤ 90) ∨ (48 ≤ b ∧ b ≤ 57) ∨ b = 95)))) I P) := by
  refine jC_intro (by decide +kernel) (by simp [jc, va_rf, Value.category]) (Nat.le_of_ble_eq_true rfl) ?_
  refine jJ_iload_n (pc := 0) dX3_isOfWord_0 rfl ?_
  refine jJ_callSd (pc := 1) (as := [_]) dX3_isOfWord_1 mX3_87 (Nat.le_of_ble_eq_true rfl) (jRm_ok (by omega) (by decide)) (c_isSmall (d := d - 1)) ?_
  refine jJ_if_ne (pc := 4) (tgt := 27) dX3_isOfWord_4 (by decide) (fun c4 => ?_) (fun c4 => ?_)
  · try simp only [jb_z, jb_nz] at c4
    refine jJ_iconst (pc := 27) dX3_isOfWord_27 (by decide) ?_
    refine jJ_goto (pc := 28) (tgt := 32) dX3_isOfWord_28 (by decide) ?_
    refine jJ_zret (pc := 32) dX3_isOfWord_32 rfl (by decide) ?_
    exact ⟨by first | rw [← jb_t (by omega)] | rw [← jb_f (by omega)], rfl, rfl⟩
  · try simp only [jb_z, jb_nz] at c4
    refine jJ_iload_n (pc := 7) dX3_isOfWord_7 rfl ?_
    refine jJ_callSd (pc := 8) (as := [_]) dX3_isOfWord_8 mX3_90 (Nat.le_of_ble_eq_true rfl) (jRm_ok (by omega) (by decide)) (c_isGreat (d := d - 1)) ?_
    refine jJ_if_ne (pc := 11) (tgt := 27) dX3_isOfWord_11 (by decide) (fun c11 => ?_) (fun c11 => ?_)
    · try simp only [jb_z, jb_nz] at c11
      refine jJ_iconst (pc := 27) dX3_isOfWord_27 (by decide) ?_
      refine jJ_goto (pc := 28) (tgt := 32) dX3_isOfWord_28 (by decide) ?_
      refine jJ_zret (pc := 32) dX3_isOfWord_32 rfl (by decide) ?_
      exact ⟨by first | rw [← jb_t (by omega)] | rw [← jb_f (by omega)], rfl, rfl⟩
    · try simp only [jb_z, jb_nz] at c11
      refine jJ_iload_n (pc := 14) dX3_isOfWord_14 rfl ?_
      refine jJ_callSd (pc := 15) (as := [_]) dX3_isOfWord_15 mX3_105 (Nat.le_of_ble_eq_true rfl) (jRm_ok (by omega) (by decide)) (c_isDigit (d := d - 1)) ?_
      refine jJ_if_ne (pc := 18) (tgt := 27) dX3_isOfWord_18 (by decide) (fun c18 => ?_) (fun c18 => ?_)
      · try simp only [jb_z, jb_nz] at c18
        refine jJ_iconst (pc := 27) dX3_isOfWord_27 (by decide) ?_
        refine jJ_goto (pc := 28) (tgt := 32) dX3_isOfWord_28 (by decide) ?_
        refine jJ_zret (pc := 32) dX3_isOfWord_32 rfl (by decide) ?_
        exact ⟨by first | rw [← jb_t (by omega)] | rw [← jb_f (by omega)], rfl, rfl⟩
      · try simp only [jb_z, jb_nz] at c18
        refine jJ_iload_n (pc := 21) dX3_isOfWord_21 rfl ?_
        refine jJ_bipush (pc := 22) dX3_isOfWord_22 (by decide) ?_
        refine jJ_icmp_ne (pc := 24) (tgt := 31) dX3_isOfWord_24 (by decide) (fun c24 => ?_) (fun c24 => ?_)
        · try simp only [jb_z, jb_nz] at c24
          refine jJ_iconst (pc := 31) dX3_isOfWord_31 (by decide) ?_
          refine jJ_zret (pc := 32) dX3_isOfWord_32 rfl (by decide) ?_
          exact ⟨by first | rw [← jb_t (by omega)] | rw [← jb_f (by omega)], rfl, rfl⟩
        · try simp only [jb_z, jb_nz] at c24
          refine jJ_iconst (pc := 27) dX3_isOfWord_27 (by decide) ?_
          refine jJ_goto (pc := 28) (tgt := 32) dX3_isOfWord_28 (by decide) ?_
          refine jJ_zret (pc := 32) dX3_isOfWord_32 rfl (by decide) ?_
          exact ⟨by first | rw [← jb_t (by omega)] | rw [← jb_f (by omega)], rfl, rfl⟩
theorem c_Rd_isSign {b : Int} (hd : 1 ≤ d) : jC E yX3_isSign cX3_isSign 1 (some .boolean) d [ji b] I P (jD (some (ji (jb (b = 43 ∨ b = 45 ∨ b = 60 ∨ b = 61 ∨ b = 40 ∨ b = 41 ∨ b = 123 ∨ b = 125 ∨ b = 44 ∨ b = 59)))) I P) := by
  refine jC_intro (by decide +kernel) (by simp [jc, va_rf, Value.category]) (Nat.le_of_ble_eq_true rfl) ?_
  refine jJ_iload_n (pc := 0) dX3_isSign_0 rfl ?_
  refine jJ_callSd (pc := 1) (as := [_]) dX3_isSign_1 mX3_117 (Nat.le_of_ble_eq_true rfl) (jRm_ok (by omega) (by decide)) (c_isOperator (d := d - 1)) ?_
  refine jJ_if_ne (pc := 4) (tgt := 49) dX3_isSign_4 (by decide) (fun c4 => ?_) (fun c4 => ?_)
  · try simp only [jb_z, jb_nz] at c4
    refine jJ_iconst (pc := 49) dX3_isSign_49 (by decide) ?_
    refine jJ_goto (pc := 50) (tgt := 54) dX3_isSign_50 (by decide) ?_
    refine jJ_zret (pc := 54) dX3_isSign_54 rfl (by decide) ?_
    exact ⟨by first | rw [← jb_t (by omega)] | rw [← jb_f (by omega)], rfl, rfl⟩
  · try simp only [jb_z, jb_nz] at c4
    refine jJ_iload_n (pc := 7) dX3_isSign_7 rfl ?_
    refine jJ_bipush (pc := 8) dX3_isSign_8 (by decide) ?_
    refine jJ_icmp_eq (pc := 10) (tgt := 49) dX3_isSign_10 (by decide) (fun c10 => ?_) (fun c10 => ?_)
    · try simp only [jb_z, jb_nz] at c10
      refine jJ_iconst (pc := 49) dX3_isSign_49 (by decide) ?_
      refine jJ_goto (pc := 50) (tgt := 54) dX3_isSign_50 (by decide) ?_
      refine jJ_zret (pc := 54) dX3_isSign_54 rfl (by decide) ?_
      exact ⟨by first | rw [← jb_t (by omega)] | rw [← jb_f (by omega)], rfl, rfl⟩
    · try simp only [jb_z, jb_nz] at c10
      refine jJ_iload_n (pc := 13) dX3_isSign_13 rfl ?_
      refine jJ_bipush (pc := 14) dX3_isSign_14 (by decide) ?_
      refine jJ_icmp_eq (pc := 16) (tgt := 49) dX3_isSign_16 (by decide) (fun c16 => ?_) (fun c16 => ?_)
      · try simp only [jb_z, jb_nz] at c16
        refine jJ_iconst (pc := 49) dX3_isSign_49 (by decide) ?_
        refine jJ_goto (pc := 50) (tgt := 54) dX3_isSign_50 (by decide) ?_
        refine jJ_zret (pc := 54) dX3_isSign_54 rfl (by decide) ?_
        exact ⟨by first | rw [← jb_t (by omega)] | rw [← jb_f (by omega)], rfl, rfl⟩
      · try simp only [jb_z, jb_nz] at c16
        refine jJ_iload_n (pc := 19) dX3_isSign_19 rfl ?_
        refine jJ_bipush (pc := 20) dX3_isSign_20 (by decide) ?_
        refine jJ_icmp_eq (pc := 22) (tgt := 49) dX3_isSign_22 (by decide) (fun c22 => ?_) (fun c22 => ?_)
        · try simp only [jb_z, jb_nz] at c22
          refine jJ_iconst (pc := 49) dX3_isSign_49 (by decide) ?_
          refine jJ_goto (pc := 50) (tgt := 54) dX3_isSign_50 (by decide) ?_
          refine jJ_zret (pc := 54) dX3_isSign_54 rfl (by decide) ?_
          exact ⟨by first | rw [← jb_t (by omega)] | rw [← jb_f (by omega)], rfl, rfl⟩
        · try simp only [jb_z, jb_nz] at c22
          refine jJ_iload_n (pc := 25) dX3_isSign_25 rfl ?_
          refine jJ_bipush (pc := 26) dX3_isSign_26 (by decide) ?_
          refine jJ_icmp_eq (pc := 28) (tgt := 49) dX3_isSign_28 (by decide) (fun c28 => ?_) (fun c28 => ?_)
          · try simp only [jb_z, jb_nz] at c28
            refine jJ_iconst (pc := 49) dX3_isSign_49 (by decide) ?_
            refine jJ_goto (pc := 50) (tgt := 54) dX3_isSign_50 (by decide) ?_
            refine jJ_zret (pc := 54) dX3_isSign_54 rfl (by decide) ?_
            exact ⟨by first | rw [← jb_t (by omega)] | rw [← jb_f (by omega)], rfl, rfl⟩
          · try simp only [jb_z, jb_nz] at c28
            refine jJ_iload_n (pc := 31) dX3_isSign_31 rfl ?_
            refine jJ_bipush (pc := 32) dX3_isSign_32 (by decide) ?_
            refine jJ_icmp_eq (pc := 34) (tgt := 49) dX3_isSign_34 (by decide) (fun c34 => ?_) (fun c34 => ?_)
            · try simp only [jb_z, jb_nz] at c34
              refine jJ_iconst (pc := 49) dX3_isSign_49 (by decide) ?_
              refine jJ_goto (pc := 50) (tgt := 54) dX3_isSign_50 (by decide) ?_
              refine jJ_zret (pc := 54) dX3_isSign_54 rfl (by decide) ?_
              exact ⟨by first | rw [← jb_t (by omega)] | rw [← jb_f (by omega)], rfl, rfl⟩
            · try simp only [jb_z, jb_nz] at c34
              refine jJ_iload_n (pc := 37) dX3_isSign_37 rfl ?_
              refine jJ_bipush (pc := 38) dX3_isSign_38 (by decide) ?_
              refine jJ_icmp_eq (pc := 40) (tgt := 49) dX3_isSign_40 (by decide) (fun c40 => ?_) (fun c40 => ?_)
              · try simp only [jb_z, jb_nz] at c40
                refine jJ_iconst (pc := 49) dX3_isSign_49 (by decide) ?_
                refine jJ_goto (pc := 50) (tgt := 54) dX3_isSign_50 (by decide) ?_
                refine jJ_zret (pc := 54) dX3_isSign_54 rfl (by decide) ?_
                exact ⟨by first | rw [← jb_t (by omega)] | rw [← jb_f (by omega)], rfl, rfl⟩
              · try simp only [jb_z, jb_nz] at c40
                refine jJ_iload_n (pc := 43) dX3_isSign_43 rfl ?_
                refine jJ_bipush (pc := 44) dX3_isSign_44 (by decide) ?_
                refine jJ_icmp_ne (pc := 46) (tgt := 53) dX3_isSign_46 (by decide) (fun c46 => ?_) (fun c46 => ?_)
                · try simp only [jb_z, jb_nz] at c46
                  refine jJ_iconst (pc := 53) dX3_isSign_53 (by decide) ?_
                  refine jJ_zret (pc := 54) dX3_isSign_54 rfl (by decide) ?_
                  exact ⟨by first | rw [← jb_t (by omega)] | rw [← jb_f (by omega)], rfl, rfl⟩
                · try simp only [jb_z, jb_nz] at c46
                  refine jJ_iconst (pc := 49) dX3_isSign_49 (by decide) ?_
                  refine jJ_goto (pc := 50) (tgt := 54) dX3_isSign_50 (by decide) ?_
                  refine jJ_zret (pc := 54) dX3_isSign_54 rfl (by decide) ?_
                  exact ⟨by first | rw [← jb_t (by omega)] | rw [← jb_f (by omega)], rfl, rfl⟩
theorem c_Rd_expect {b v : Int} (h : RdL E P rd op) (hb : b = 0 ∨ b = 1) : jC E yX3_expect cX3_expect 3 (some .boolean) d [jp rd, ji b, ji v] (rdM I rd op s r) P (jD (some (ji b)) (rdM I rd op (if b = 0 then s else su s 4 v) r) P) := by
  have h0 := h.1
  refine jC_intro (by decide +kernel) (by simp [jc, va_rf, Value.category]) (Nat.le_of_ble_eq_true rfl) ?_
  refine jJ_iload_n (pc := 0) dX3_expect_0 rfl ?_
  refine jJ_if_eq (pc := 1) (tgt := 9) dX3_expect_1 (by decide) (fun c1 => ?_) (fun c1 => ?_)
  · refine jJ_iload_n (pc := 9) dX3_expect_9 rfl ?_
    refine jJ_zret (pc := 10) dX3_expect_10 rfl hb ?_
    exact ⟨rfl, by split <;> first | rfl | (exfalso; omega), rfl⟩
  · refine jJ_aload_n (pc := 4) dX3_expect_4 rfl ?_
    refine jJ_iload_n (pc := 5) dX3_expect_5 rfl ?_
    refine jJ_puti (pc := 6) dX3_expect_6 fX3_29w rfl ⟨rfl, rfl⟩ (by assumption) ?_
    try simp only [rdM_g1, rdM_g2, rdM_g3, rdM_g4, rdM_g5, rdM_g6, rdM_g7, rdM_g8, rdM_g9, rdM_g10, rdM_p1, rdM_p2, rdM_p3, rdM_p4, rdM_p5, rdM_p6, rdM_p7, rdM_p8, rdM_p9, rdM_p10, rdM_r, rdM_w, su_s, su_1_2, su_1_3, su_1_4, su_1_5, su_1_6, su_1_7, su_1_8, su_1_9, su_1_10, su_2_1, su_2_3, su_2_4, su_2_5, su_2_6, su_2_7, su_2_8, su_2_9, su_2_10, su_3_1, su_3_2, su_3_4, su_3_5, su_3_6, su_3_7, su_3_8, su_3_9, su_3_10, su_4_1, su_4_2, su_4_3, su_4_5, su_4_6, su_4_7, su_4_8, su_4_9, su_4_10, su_5_1, su_5_2, su_5_3, su_5_4, su_5_6, su_5_7, su_5_8, su_5_9, su_5_10, su_6_1, su_6_2, su_6_3, su_6_4, su_6_5, su_6_7, su_6_8, su_6_9, su_6_10, su_7_1, su_7_2, su_7_3, su_7_4, su_7_5, su_7_6, su_7_8, su_7_9, su_7_10, su_8_1, su_8_2, su_8_3, su_8_4, su_8_5, su_8_6, su_8_7, su_8_9, su_8_10, su_9_1, su_9_2, su_9_3, su_9_4, su_9_5, su_9_6, su_9_7, su_9_8, su_9_10, su_10_1, su_10_2, su_10_3, su_10_4, su_10_5, su_10_6, su_10_7, su_10_8, su_10_9]
    refine jJ_iload_n (pc := 9) dX3_expect_9 rfl ?_
    refine jJ_zret (pc := 10) dX3_expect_10 rfl hb ?_
    exact ⟨rfl, by split <;> first | rfl | (exfalso; omega), rfl⟩
theorem c_Rd_own {a v : Int} (h : RdL E P rd op) (hs : 0 ≤ s 6 ∧ s 6 ≤ 100000) : jC E yX3_ownStatement cX3_ownStatement 3 (some .boolean) d [jp rd, ji a, ji v] (rdM I rd op s r) P (jD (some (ji 1)) (rdM I rd op (su (su (su s 5 a) 6 (s 6 + 1)) 4 v) r) P) := by
  have h0 := h.1
  refine jC_intro (by decide +kernel) (by simp [jc, va_rf, Value.category]) (Nat.le_of_ble_eq_true rfl) ?_
  refine jJ_aload_n (pc := 0) dX3_ownStatement_0 rfl ?_
  refine jJ_iload_n (pc := 1) dX3_ownStatement_1 rfl ?_
  refine jJ_puti (pc := 2) dX3_ownStatement_2 fX3_32w rfl ⟨rfl, rfl⟩ (by assumption) ?_
  try simp only [rdM_g1, rdM_g2, rdM_g3, rdM_g4, rdM_g5, rdM_g6, rdM_g7, rdM_g8, rdM_g9, rdM_g10, rdM_p1, rdM_p2, rdM_p3, rdM_p4, rdM_p5, rdM_p6, rdM_p7, rdM_p8, rdM_p9, rdM_p10, rdM_r, rdM_w, su_s, su_1_2, su_1_3, su_1_4, su_1_5, su_1_6, su_1_7, su_1_8, su_1_9, su_1_10, su_2_1, su_2_3, su_2_4, su_2_5, su_2_6, su_2_7, su_2_8, su_2_9, su_2_10, su_3_1, su_3_2, su_3_4, su_3_5, su_3_6, su_3_7, su_3_8, su_3_9, su_3_10, su_4_1, su_4_2, su_4_3, su_4_5, su_4_6, su_4_7, su_4_8, su_4_9, su_4_10, su_5_1, su_5_2, su_5_3, su_5_4, su_5_6, su_5_7, su_5_8, su_5_9, su_5_10, su_6_1, su_6_2, su_6_3, su_6_4, su_6_5, su_6_7, su_6_8, su_6_9, su_6_10, su_7_1, su_7_2, su_7_3, su_7_4, su_7_5, su_7_6, su_7_8, su_7_9, su_7_10, su_8_1, su_8_2, su_8_3, su_8_4, su_8_5, su_8_6, su_8_7, su_8_9, su_8_10, su_9_1, su_9_2, su_9_3, su_9_4, su_9_5, su_9_6, su_9_7, su_9_8, su_9_10, su_10_1, su_10_2, su_10_3, su_10_4, su_10_5, su_10_6, su_10_7, su_10_8, su_10_9]
  refine jJ_aload_n (pc := 5) dX3_ownStatement_5 rfl ?_
  refine jJ_dup (pc := 6) dX3_ownStatement_6 rfl ?_
  refine jJ_geti (pc := 7) dX3_ownStatement_7 fX3_35 rfl (by assumption) ?_
  try simp only [rdM_g1, rdM_g2, rdM_g3, rdM_g4, rdM_g5, rdM_g6, rdM_g7, rdM_g8, rdM_g9, rdM_g10, rdM_p1, rdM_p2, rdM_p3, rdM_p4, rdM_p5, rdM_p6, rdM_p7, rdM_p8, rdM_p9, rdM_p10, rdM_r, rdM_w, su_s, su_1_2, su_1_3, su_1_4, su_1_5, su_1_6, su_1_7, su_1_8, su_1_9, su_1_10, su_2_1, su_2_3, su_2_4, su_2_5, su_2_6, su_2_7, su_2_8, su_2_9, su_2_10, su_3_1, su_3_2, su_3_4, su_3_5, su_3_6, su_3_7, su_3_8, su_3_9, su_3_10, su_4_1, su_4_2, su_4_3, su_4_5, su_4_6, su_4_7, su_4_8, su_4_9, su_4_10, su_5_1, su_5_2, su_5_3, su_5_4, su_5_6, su_5_7, su_5_8, su_5_9, su_5_10, su_6_1, su_6_2, su_6_3, su_6_4, su_6_5, su_6_7, su_6_8, su_6_9, su_6_10, su_7_1, su_7_2, su_7_3, su_7_4, su_7_5, su_7_6, su_7_8, su_7_9, su_7_10, su_8_1, su_8_2, su_8_3, su_8_4, su_8_5, su_8_6, su_8_7, su_8_9, su_8_10, su_9_1, su_9_2, su_9_3, su_9_4, su_9_5, su_9_6, su_9_7, su_9_8, su_9_10, su_10_1, su_10_2, su_10_3, su_10_4, su_10_5, su_10_6, su_10_7, su_10_8, su_10_9]
  refine jJ_iconst (pc := 10) dX3_ownStatement_10 (by decide) ?_
  refine jJ_iadd (pc := 11) dX3_ownStatement_11 ⟨by omega, by omega⟩ ?_
  refine jJ_puti (pc := 12) dX3_ownStatement_12 fX3_35w rfl ⟨rfl, rfl⟩ (by assumption) ?_
  try simp only [rdM_g1, rdM_g2, rdM_g3, rdM_g4, rdM_g5, rdM_g6, rdM_g7, rdM_g8, rdM_g9, rdM_g10, rdM_p1, rdM_p2, rdM_p3, rdM_p4, rdM_p5, rdM_p6, rdM_p7, rdM_p8, rdM_p9, rdM_p10, rdM_r, rdM_w, su_s, su_1_2, su_1_3, su_1_4, su_1_5, su_1_6, su_1_7, su_1_8, su_1_9, su_1_10, su_2_1, su_2_3, su_2_4, su_2_5, su_2_6, su_2_7, su_2_8, su_2_9, su_2_10, su_3_1, su_3_2, su_3_4, su_3_5, su_3_6, su_3_7, su_3_8, su_3_9, su_3_10, su_4_1, su_4_2, su_4_3, su_4_5, su_4_6, su_4_7, su_4_8, su_4_9, su_4_10, su_5_1, su_5_2, su_5_3, su_5_4, su_5_6, su_5_7, su_5_8, su_5_9, su_5_10, su_6_1, su_6_2, su_6_3, su_6_4, su_6_5, su_6_7, su_6_8, su_6_9, su_6_10, su_7_1, su_7_2, su_7_3, su_7_4, su_7_5, su_7_6, su_7_8, su_7_9, su_7_10, su_8_1, su_8_2, su_8_3, su_8_4, su_8_5, su_8_6, su_8_7, su_8_9, su_8_10, su_9_1, su_9_2, su_9_3, su_9_4, su_9_5, su_9_6, su_9_7, su_9_8, su_9_10, su_10_1, su_10_2, su_10_3, su_10_4, su_10_5, su_10_6, su_10_7, su_10_8, su_10_9]
  refine jJ_aload_n (pc := 15) dX3_ownStatement_15 rfl ?_
  refine jJ_iload_n (pc := 16) dX3_ownStatement_16 rfl ?_
  refine jJ_puti (pc := 17) dX3_ownStatement_17 fX3_29w rfl ⟨rfl, rfl⟩ (by assumption) ?_
  try simp only [rdM_g1, rdM_g2, rdM_g3, rdM_g4, rdM_g5, rdM_g6, rdM_g7, rdM_g8, rdM_g9, rdM_g10, rdM_p1, rdM_p2, rdM_p3, rdM_p4, rdM_p5, rdM_p6, rdM_p7, rdM_p8, rdM_p9, rdM_p10, rdM_r, rdM_w, su_s, su_1_2, su_1_3, su_1_4, su_1_5, su_1_6, su_1_7, su_1_8, su_1_9, su_1_10, su_2_1, su_2_3, su_2_4, su_2_5, su_2_6, su_2_7, su_2_8, su_2_9, su_2_10, su_3_1, su_3_2, su_3_4, su_3_5, su_3_6, su_3_7, su_3_8, su_3_9, su_3_10, su_4_1, su_4_2, su_4_3, su_4_5, su_4_6, su_4_7, su_4_8, su_4_9, su_4_10, su_5_1, su_5_2, su_5_3, su_5_4, su_5_6, su_5_7, su_5_8, su_5_9, su_5_10, su_6_1, su_6_2, su_6_3, su_6_4, su_6_5, su_6_7, su_6_8, su_6_9, su_6_10, su_7_1, su_7_2, su_7_3, su_7_4, su_7_5, su_7_6, su_7_8, su_7_9, su_7_10, su_8_1, su_8_2, su_8_3, su_8_4, su_8_5, su_8_6, su_8_7, su_8_9, su_8_10, su_9_1, su_9_2, su_9_3, su_9_4, su_9_5, su_9_6, su_9_7, su_9_8, su_9_10, su_10_1, su_10_2, su_10_3, su_10_4, su_10_5, su_10_6, su_10_7, su_10_8, su_10_9]
  refine jJ_iconst (pc := 20) dX3_ownStatement_20 (by decide) ?_
  refine jJ_zret (pc := 21) dX3_ownStatement_21 rfl (by decide) ?_
  exact ⟨rfl, rfl, rfl⟩
def rInner (s r : Nat → Int) : Int := if 0 < s 1 ∧ s 1 ≤ 6 then r (s 1 - 1).toNat else -1
theorem c_Rd_innermost (h : RdL E P rd op) (hs : -100 ≤ s 1 ∧ s 1 ≤ 100) : jC E yX3_innermost cX3_innermost 1 (some .int) d [jp rd] (rdM I rd op s r) P (jD (some (ji (rInner s r))) (rdM I rd op s r) P) := by
  have hne := h.ne
  obtain ⟨h0, p0, a0⟩ := h
  refine jC_intro (by decide +kernel) (by simp [jc, va_rf, Value.category]) (Nat.le_of_ble_eq_true rfl) ?_
  refine jJ_aload_n (pc := 0) dX3_innermost_0 rfl ?_
  refine jJ_geti (pc := 1) dX3_innermost_1 fX3_19 rfl (by assumption) ?_
  try simp only [rdM_g1, rdM_g2, rdM_g3, rdM_g4, rdM_g5, rdM_g6, rdM_g7, rdM_g8, rdM_g9, rdM_g10, rdM_p1, rdM_p2, rdM_p3, rdM_p4, rdM_p5, rdM_p6, rdM_p7, rdM_p8, rdM_p9, rdM_p10, rdM_r, rdM_w, su_s, su_1_2, su_1_3, su_1_4, su_1_5, su_1_6, su_1_7, su_1_8, su_1_9, su_1_10, su_2_1, su_2_3, su_2_4, su_2_5, su_2_6, su_2_7, su_2_8, su_2_9, su_2_10, su_3_1, su_3_2, su_3_4, su_3_5, su_3_6, su_3_7, su_3_8, su_3_9, su_3_10, su_4_1, su_4_2, su_4_3, su_4_5, su_4_6, su_4_7, su_4_8, su_4_9, su_4_10, su_5_1, su_5_2, su_5_3, su_5_4, su_5_6, su_5_7, su_5_8, su_5_9, su_5_10, su_6_1, su_6_2, su_6_3, su_6_4, su_6_5, su_6_7, su_6_8, su_6_9, su_6_10, su_7_1, su_7_2, su_7_3, su_7_4, su_7_5, su_7_6, su_7_8, su_7_9, su_7_10, su_8_1, su_8_2, su_8_3, su_8_4, su_8_5, su_8_6, su_8_7, su_8_9, su_8_10, su_9_1, su_9_2, su_9_3, su_9_4, su_9_5, su_9_6, su_9_7, su_9_8, su_9_10, su_10_1, su_10_2, su_10_3, su_10_4, su_10_5, su_10_6, su_10_7, su_10_8, su_10_9]
  refine jJ_if_le (pc := 4) (tgt := 33) dX3_innermost_4 (by decide) (fun c4 => ?_) (fun c4 => ?_)
  · refine jJ_iconst (pc := 33) dX3_innermost_33 (by decide) ?_
    refine jJ_iret (pc := 34) dX3_innermost_34 rfl ?_
    exact ⟨by unfold rInner; split <;> first | rfl | (exfalso; omega), rfl, rfl⟩
  · refine jJ_aload_n (pc := 7) dX3_innermost_7 rfl ?_
    refine jJ_geti (pc := 8) dX3_innermost_8 fX3_19 rfl (by assumption) ?_
    try simp only [rdM_g1, rdM_g2, rdM_g3, rdM_g4, rdM_g5, rdM_g6, rdM_g7, rdM_g8, rdM_g9, rdM_g10, rdM_p1, rdM_p2, rdM_p3, rdM_p4, rdM_p5, rdM_p6, rdM_p7, rdM_p8, rdM_p9, rdM_p10, rdM_r, rdM_w, su_s, su_1_2, su_1_3, su_1_4, su_1_5, su_1_6, su_1_7, su_1_8, su_1_9, su_1_10, su_2_1, su_2_3, su_2_4, su_2_5, su_2_6, su_2_7, su_2_8, su_2_9, su_2_10, su_3_1, su_3_2, su_3_4, su_3_5, su_3_6, su_3_7, su_3_8, su_3_9, su_3_10, su_4_1, su_4_2, su_4_3, su_4_5, su_4_6, su_4_7, su_4_8, su_4_9, su_4_10, su_5_1, su_5_2, su_5_3, su_5_4, su_5_6, su_5_7, su_5_8, su_5_9, su_5_10, su_6_1, su_6_2, su_6_3, su_6_4, su_6_5, su_6_7, su_6_8, su_6_9, su_6_10, su_7_1, su_7_2, su_7_3, su_7_4, su_7_5, su_7_6, su_7_8, su_7_9, su_7_10, su_8_1, su_8_2, su_8_3, su_8_4, su_8_5, su_8_6, su_8_7, su_8_9, su_8_10, su_9_1, su_9_2, su_9_3, su_9_4, su_9_5, su_9_6, su_9_7, su_9_8, su_9_10, su_10_1, su_10_2, su_10_3, su_10_4, su_10_5, su_10_6, su_10_7, su_10_8, su_10_9]
    refine jJ_aload_n (pc := 11) dX3_innermost_11 rfl ?_
    refine jJ_getr (pc := 12) dX3_innermost_12 fX3_9 rfl (by assumption) (by assumption) ?_
    try simp only [rdM_g1, rdM_g2, rdM_g3, rdM_g4, rdM_g5, rdM_g6, rdM_g7, rdM_g8, rdM_g9, rdM_g10, rdM_p1, rdM_p2, rdM_p3, rdM_p4, rdM_p5, rdM_p6, rdM_p7, rdM_p8, rdM_p9, rdM_p10, rdM_r, rdM_w, su_s, su_1_2, su_1_3, su_1_4, su_1_5, su_1_6, su_1_7, su_1_8, su_1_9, su_1_10, su_2_1, su_2_3, su_2_4, su_2_5, su_2_6, su_2_7, su_2_8, su_2_9, su_2_10, su_3_1, su_3_2, su_3_4, su_3_5, su_3_6, su_3_7, su_3_8, su_3_9, su_3_10, su_4_1, su_4_2, su_4_3, su_4_5, su_4_6, su_4_7, su_4_8, su_4_9, su_4_10, su_5_1, su_5_2, su_5_3, su_5_4, su_5_6, su_5_7, su_5_8, su_5_9, su_5_10, su_6_1, su_6_2, su_6_3, su_6_4, su_6_5, su_6_7, su_6_8, su_6_9, su_6_10, su_7_1, su_7_2, su_7_3, su_7_4, su_7_5, su_7_6, su_7_8, su_7_9, su_7_10, su_8_1, su_8_2, su_8_3, su_8_4, su_8_5, su_8_6, su_8_7, su_8_9, su_8_10, su_9_1, su_9_2, su_9_3, su_9_4, su_9_5, su_9_6, su_9_7, su_9_8, su_9_10, su_10_1, su_10_2, su_10_3, su_10_4, su_10_5, su_10_6, su_10_7, su_10_8, su_10_9]
    refine jJ_alen (pc := 15) (t0 := 1) dX3_innermost_15 (by assumption) rfl (by decide) (by decide) (by decide) ?_
    refine jJ_icmp_gt (pc := 16) (tgt := 33) dX3_innermost_16 (by decide) (fun c16 => ?_) (fun c16 => ?_)
    · refine jJ_iconst (pc := 33) dX3_innermost_33 (by decide) ?_
      refine jJ_iret (pc := 34) dX3_innermost_34 rfl ?_
      exact ⟨by unfold rInner; split <;> first | rfl | (exfalso; omega), rfl, rfl⟩
    · refine jJ_aload_n (pc := 19) dX3_innermost_19 rfl ?_
      refine jJ_getr (pc := 20) dX3_innermost_20 fX3_9 rfl (by assumption) (by assumption) ?_
      try simp only [rdM_g1, rdM_g2, rdM_g3, rdM_g4, rdM_g5, rdM_g6, rdM_g7, rdM_g8, rdM_g9, rdM_g10, rdM_p1, rdM_p2, rdM_p3, rdM_p4, rdM_p5, rdM_p6, rdM_p7, rdM_p8, rdM_p9, rdM_p10, rdM_r, rdM_w, su_s, su_1_2, su_1_3, su_1_4, su_1_5, su_1_6, su_1_7, su_1_8, su_1_9, su_1_10, su_2_1, su_2_3, su_2_4, su_2_5, su_2_6, su_2_7, su_2_8, su_2_9, su_2_10, su_3_1, su_3_2, su_3_4, su_3_5, su_3_6, su_3_7, su_3_8, su_3_9, su_3_10, su_4_1, su_4_2, su_4_3, su_4_5, su_4_6, su_4_7, su_4_8, su_4_9, su_4_10, su_5_1, su_5_2, su_5_3, su_5_4, su_5_6, su_5_7, su_5_8, su_5_9, su_5_10, su_6_1, su_6_2, su_6_3, su_6_4, su_6_5, su_6_7, su_6_8, su_6_9, su_6_10, su_7_1, su_7_2, su_7_3, su_7_4, su_7_5, su_7_6, su_7_8, su_7_9, su_7_10, su_8_1, su_8_2, su_8_3, su_8_4, su_8_5, su_8_6, su_8_7, su_8_9, su_8_10, su_9_1, su_9_2, su_9_3, su_9_4, su_9_5, su_9_6, su_9_7, su_9_8, su_9_10, su_10_1, su_10_2, su_10_3, su_10_4, su_10_5, su_10_6, su_10_7, su_10_8, su_10_9]
      refine jJ_aload_n (pc := 23) dX3_innermost_23 rfl ?_
      refine jJ_geti (pc := 24) dX3_innermost_24 fX3_19 rfl (by assumption) ?_
      try simp only [rdM_g1, rdM_g2, rdM_g3, rdM_g4, rdM_g5, rdM_g6, rdM_g7, rdM_g8, rdM_g9, rdM_g10, rdM_p1, rdM_p2, rdM_p3, rdM_p4, rdM_p5, rdM_p6, rdM_p7, rdM_p8, rdM_p9, rdM_p10, rdM_r, rdM_w, su_s, su_1_2, su_1_3, su_1_4, su_1_5, su_1_6, su_1_7, su_1_8, su_1_9, su_1_10, su_2_1, su_2_3, su_2_4, su_2_5, su_2_6, su_2_7, su_2_8, su_2_9, su_2_10, su_3_1, su_3_2, su_3_4, su_3_5, su_3_6, su_3_7, su_3_8, su_3_9, su_3_10, su_4_1, su_4_2, su_4_3, su_4_5, su_4_6, su_4_7, su_4_8, su_4_9, su_4_10, su_5_1, su_5_2, su_5_3, su_5_4, su_5_6, su_5_7, su_5_8, su_5_9, su_5_10, su_6_1, su_6_2, su_6_3, su_6_4, su_6_5, su_6_7, su_6_8, su_6_9, su_6_10, su_7_1, su_7_2, su_7_3, su_7_4, su_7_5, su_7_6, su_7_8, su_7_9, su_7_10, su_8_1, su_8_2, su_8_3, su_8_4, su_8_5, su_8_6, su_8_7, su_8_9, su_8_10, su_9_1, su_9_2, su_9_3, su_9_4, su_9_5, su_9_6, su_9_7, su_9_8, su_9_10, su_10_1, su_10_2, su_10_3, su_10_4, su_10_5, su_10_6, su_10_7, su_10_8, su_10_9]
      refine jJ_iconst (pc := 27) dX3_innermost_27 (by decide) ?_
      refine jJ_isub (pc := 28) dX3_innermost_28 ⟨by omega, by omega⟩ ?_
      refine jJ_iald (pc := 29) dX3_innermost_29 (by assumption) ⟨by omega, by omega⟩ ?_
      try simp only [rdM_g1, rdM_g2, rdM_g3, rdM_g4, rdM_g5, rdM_g6, rdM_g7, rdM_g8, rdM_g9, rdM_g10, rdM_p1, rdM_p2, rdM_p3, rdM_p4, rdM_p5, rdM_p6, rdM_p7, rdM_p8, rdM_p9, rdM_p10, rdM_r, rdM_w, su_s, su_1_2, su_1_3, su_1_4, su_1_5, su_1_6, su_1_7, su_1_8, su_1_9, su_1_10, su_2_1, su_2_3, su_2_4, su_2_5, su_2_6, su_2_7, su_2_8, su_2_9, su_2_10, su_3_1, su_3_2, su_3_4, su_3_5, su_3_6, su_3_7, su_3_8, su_3_9, su_3_10, su_4_1, su_4_2, su_4_3, su_4_5, su_4_6, su_4_7, su_4_8, su_4_9, su_4_10, su_5_1, su_5_2, su_5_3, su_5_4, su_5_6, su_5_7, su_5_8, su_5_9, su_5_10, su_6_1, su_6_2, su_6_3, su_6_4, su_6_5, su_6_7, su_6_8, su_6_9, su_6_10, su_7_1, su_7_2, su_7_3, su_7_4, su_7_5, su_7_6, su_7_8, su_7_9, su_7_10, su_8_1, su_8_2, su_8_3, su_8_4, su_8_5, su_8_6, su_8_7, su_8_9, su_8_10, su_9_1, su_9_2, su_9_3, su_9_4, su_9_5, su_9_6, su_9_7, su_9_8, su_9_10, su_10_1, su_10_2, su_10_3, su_10_4, su_10_5, su_10_6, su_10_7, su_10_8, su_10_9]
      rw [rdM_rr hne (by omega)]
      refine jJ_goto (pc := 30) (tgt := 34) dX3_innermost_30 (by decide) ?_
      refine jJ_iret (pc := 34) dX3_innermost_34 rfl ?_
      exact ⟨by unfold rInner; split <;> first | rfl | (exfalso; omega), rfl, rfl⟩
def pushS (s : Nat → Int) : Nat → Int := if s 1 < 6 then su s 1 (s 1 + 1) else su s 3 1
def pushR (s r : Nat → Int) (v : Int) : Nat → Int := if s 1 < 6 then su r (s 1).toNat v else r
theorem c_Rd_push {v : Int} (h : RdL E P rd op) (hs : 0 ≤ s 1 ∧ s 1 ≤ 6) : jC E yX3_push cX3_push 2 (some .boolean) d [jp rd, ji v] (rdM I rd op s r) P (jD (some (ji 1)) (rdM I rd op (pushS s) (pushR s r v)) P) := by
  have hne := h.ne
  obtain ⟨h0, p0, a0⟩ := h
  refine jC_intro (by decide +kernel) (by simp [jc, va_rf, Value.category]) (Nat.le_of_ble_eq_true rfl) ?_
  refine jJ_aload_n (pc := 0) dX3_push_0 rfl ?_
  refine jJ_geti (pc := 1) dX3_push_1 fX3_19 rfl (by assumption) ?_
  try simp only [rdM_g1, rdM_g2, rdM_g3, rdM_g4, rdM_g5, rdM_g6, rdM_g7, rdM_g8, rdM_g9, rdM_g10, rdM_p1, rdM_p2, rdM_p3, rdM_p4, rdM_p5, rdM_p6, rdM_p7, rdM_p8, rdM_p9, rdM_p10, rdM_r, rdM_w, su_s, su_1_2, su_1_3, su_1_4, su_1_5, su_1_6, su_1_7, su_1_8, su_1_9, su_1_10, su_2_1, su_2_3, su_2_4, su_2_5, su_2_6, su_2_7, su_2_8, su_2_9, su_2_10, su_3_1, su_3_2, su_3_4, su_3_5, su_3_6, su_3_7, su_3_8, su_3_9, su_3_10, su_4_1, su_4_2, su_4_3, su_4_5, su_4_6, su_4_7, su_4_8, su_4_9, su_4_10, su_5_1, su_5_2, su_5_3, su_5_4, su_5_6, su_5_7, su_5_8, su_5_9, su_5_10, su_6_1, su_6_2, su_6_3, su_6_4, su_6_5, su_6_7, su_6_8, su_6_9, su_6_10, su_7_1, su_7_2, su_7_3, su_7_4, su_7_5, su_7_6, su_7_8, su_7_9, su_7_10, su_8_1, su_8_2, su_8_3, su_8_4, su_8_5, su_8_6, su_8_7, su_8_9, su_8_10, su_9_1, su_9_2, su_9_3, su_9_4, su_9_5, su_9_6, su_9_7, su_9_8, su_9_10, su_10_1, su_10_2, su_10_3, su_10_4, su_10_5, su_10_6, su_10_7, su_10_8, su_10_9]
  refine jJ_aload_n (pc := 4) dX3_push_4 rfl ?_
  refine jJ_getr (pc := 5) dX3_push_5 fX3_9 rfl (by assumption) (by assumption) ?_
  try simp only [rdM_g1, rdM_g2, rdM_g3, rdM_g4, rdM_g5, rdM_g6, rdM_g7, rdM_g8, rdM_g9, rdM_g10, rdM_p1, rdM_p2, rdM_p3, rdM_p4, rdM_p5, rdM_p6, rdM_p7, rdM_p8, rdM_p9, rdM_p10, rdM_r, rdM_w, su_s, su_1_2, su_1_3, su_1_4, su_1_5, su_1_6, su_1_7, su_1_8, su_1_9, su_1_10, su_2_1, su_2_3, su_2_4, su_2_5, su_2_6, su_2_7, su_2_8, su_2_9, su_2_10, su_3_1, su_3_2, su_3_4, su_3_5, su_3_6, su_3_7, su_3_8, su_3_9, su_3_10, su_4_1, su_4_2, su_4_3, su_4_5, su_4_6, su_4_7, su_4_8, su_4_9, su_4_10, su_5_1, su_5_2, su_5_3, su_5_4, su_5_6, su_5_7, su_5_8, su_5_9, su_5_10, su_6_1, su_6_2, su_6_3, su_6_4, su_6_5, su_6_7, su_6_8, su_6_9, su_6_10, su_7_1, su_7_2, su_7_3, su_7_4, su_7_5, su_7_6, su_7_8, su_7_9, su_7_10, su_8_1, su_8_2, su_8_3, su_8_4, su_8_5, su_8_6, su_8_7, su_8_9, su_8_10, su_9_1, su_9_2, su_9_3, su_9_4, su_9_5, su_9_6, su_9_7, su_9_8, su_9_10, su_10_1, su_10_2, su_10_3, su_10_4, su_10_5, su_10_6, su_10_7, su_10_8, su_10_9]
  refine jJ_alen (pc := 8) (t0 := 1) dX3_push_8 (by assumption) rfl (by decide) (by decide) (by decide) ?_
  refine jJ_icmp_ge (pc := 9) (tgt := 35) dX3_push_9 (by decide) (fun c9 => ?_) (fun c9 => ?_)
  · refine jJ_aload_n (pc := 35) dX3_push_35 rfl ?_
    refine jJ_iconst (pc := 36) dX3_push_36 (by decide) ?_
    refine jJ_puti (pc := 37) dX3_push_37 fX3_25w rfl ⟨by decide, by decide⟩ (by assumption) ?_
    try simp only [rdM_g1, rdM_g2, rdM_g3, rdM_g4, rdM_g5, rdM_g6, rdM_g7, rdM_g8, rdM_g9, rdM_g10, rdM_p1, rdM_p2, rdM_p3, rdM_p4, rdM_p5, rdM_p6, rdM_p7, rdM_p8, rdM_p9, rdM_p10, rdM_r, rdM_w, su_s, su_1_2, su_1_3, su_1_4, su_1_5, su_1_6, su_1_7, su_1_8, su_1_9, su_1_10, su_2_1, su_2_3, su_2_4, su_2_5, su_2_6, su_2_7, su_2_8, su_2_9, su_2_10, su_3_1, su_3_2, su_3_4, su_3_5, su_3_6, su_3_7, su_3_8, su_3_9, su_3_10, su_4_1, su_4_2, su_4_3, su_4_5, su_4_6, su_4_7, su_4_8, su_4_9, su_4_10, su_5_1, su_5_2, su_5_3, su_5_4, su_5_6, su_5_7, su_5_8, su_5_9, su_5_10, su_6_1, su_6_2, su_6_3, su_6_4, su_6_5, su_6_7, su_6_8, su_6_9, su_6_10, su_7_1, su_7_2, su_7_3, su_7_4, su_7_5, su_7_6, su_7_8, su_7_9, su_7_10, su_8_1, su_8_2, su_8_3, su_8_4, su_8_5, su_8_6, su_8_7, su_8_9, su_8_10, su_9_1, su_9_2, su_9_3, su_9_4, su_9_5, su_9_6, su_9_7, su_9_8, su_9_10, su_10_1, su_10_2, su_10_3, su_10_4, su_10_5, su_10_6, su_10_7, su_10_8, su_10_9]
    refine jJ_iconst (pc := 40) dX3_push_40 (by decide) ?_
    refine jJ_zret (pc := 41) dX3_push_41 rfl (by decide) ?_
    exact ⟨rfl, by unfold pushS pushR; (repeat' split) <;> first | rfl | (exfalso; omega), rfl⟩
  · refine jJ_aload_n (pc := 12) dX3_push_12 rfl ?_
    refine jJ_getr (pc := 13) dX3_push_13 fX3_9 rfl (by assumption) (by assumption) ?_
    try simp only [rdM_g1, rdM_g2, rdM_g3, rdM_g4, rdM_g5, rdM_g6, rdM_g7, rdM_g8, rdM_g9, rdM_g10, rdM_p1, rdM_p2, rdM_p3, rdM_p4, rdM_p5, rdM_p6, rdM_p7, rdM_p8, rdM_p9, rdM_p10, rdM_r, rdM_w, su_s, su_1_2, su_1_3, su_1_4, su_1_5, su_1_6, su_1_7, su_1_8, su_1_9, su_1_10, su_2_1, su_2_3, su_2_4, su_2_5, su_2_6, su_2_7, su_2_8, su_2_9, su_2_10, su_3_1, su_3_2, su_3_4, su_3_5, su_3_6, su_3_7, su_3_8, su_3_9, su_3_10, su_4_1, su_4_2, su_4_3, su_4_5, su_4_6, su_4_7, su_4_8, su_4_9, su_4_10, su_5_1, su_5_2, su_5_3, su_5_4, su_5_6, su_5_7, su_5_8, su_5_9, su_5_10, su_6_1, su_6_2, su_6_3, su_6_4, su_6_5, su_6_7, su_6_8, su_6_9, su_6_10, su_7_1, su_7_2, su_7_3, su_7_4, su_7_5, su_7_6, su_7_8, su_7_9, su_7_10, su_8_1, su_8_2, su_8_3, su_8_4, su_8_5, su_8_6, su_8_7, su_8_9, su_8_10, su_9_1, su_9_2, su_9_3, su_9_4, su_9_5, su_9_6, su_9_7, su_9_8, su_9_10, su_10_1, su_10_2, su_10_3, su_10_4, su_10_5, su_10_6, su_10_7, su_10_8, su_10_9]
    refine jJ_aload_n (pc := 16) dX3_push_16 rfl ?_
    refine jJ_geti (pc := 17) dX3_push_17 fX3_19 rfl (by assumption) ?_
    try simp only [rdM_g1, rdM_g2, rdM_g3, rdM_g4, rdM_g5, rdM_g6, rdM_g7, rdM_g8, rdM_g9, rdM_g10, rdM_p1, rdM_p2, rdM_p3, rdM_p4, rdM_p5, rdM_p6, rdM_p7, rdM_p8, rdM_p9, rdM_p10, rdM_r, rdM_w, su_s, su_1_2, su_1_3, su_1_4, su_1_5, su_1_6, su_1_7, su_1_8, su_1_9, su_1_10, su_2_1, su_2_3, su_2_4, su_2_5, su_2_6, su_2_7, su_2_8, su_2_9, su_2_10, su_3_1, su_3_2, su_3_4, su_3_5, su_3_6, su_3_7, su_3_8, su_3_9, su_3_10, su_4_1, su_4_2, su_4_3, su_4_5, su_4_6, su_4_7, su_4_8, su_4_9, su_4_10, su_5_1, su_5_2, su_5_3, su_5_4, su_5_6, su_5_7, su_5_8, su_5_9, su_5_10, su_6_1, su_6_2, su_6_3, su_6_4, su_6_5, su_6_7, su_6_8, su_6_9, su_6_10, su_7_1, su_7_2, su_7_3, su_7_4, su_7_5, su_7_6, su_7_8, su_7_9, su_7_10, su_8_1, su_8_2, su_8_3, su_8_4, su_8_5, su_8_6, su_8_7, su_8_9, su_8_10, su_9_1, su_9_2, su_9_3, su_9_4, su_9_5, su_9_6, su_9_7, su_9_8, su_9_10, su_10_1, su_10_2, su_10_3, su_10_4, su_10_5, su_10_6, su_10_7, su_10_8, su_10_9]
    refine jJ_iload_n (pc := 20) dX3_push_20 rfl ?_
    refine jJ_iast (pc := 21) dX3_push_21 (by assumption) ⟨by omega, by omega⟩ ?_
    try simp only [rdM_g1, rdM_g2, rdM_g3, rdM_g4, rdM_g5, rdM_g6, rdM_g7, rdM_g8, rdM_g9, rdM_g10, rdM_p1, rdM_p2, rdM_p3, rdM_p4, rdM_p5, rdM_p6, rdM_p7, rdM_p8, rdM_p9, rdM_p10, rdM_r, rdM_w, su_s, su_1_2, su_1_3, su_1_4, su_1_5, su_1_6, su_1_7, su_1_8, su_1_9, su_1_10, su_2_1, su_2_3, su_2_4, su_2_5, su_2_6, su_2_7, su_2_8, su_2_9, su_2_10, su_3_1, su_3_2, su_3_4, su_3_5, su_3_6, su_3_7, su_3_8, su_3_9, su_3_10, su_4_1, su_4_2, su_4_3, su_4_5, su_4_6, su_4_7, su_4_8, su_4_9, su_4_10, su_5_1, su_5_2, su_5_3, su_5_4, su_5_6, su_5_7, su_5_8, su_5_9, su_5_10, su_6_1, su_6_2, su_6_3, su_6_4, su_6_5, su_6_7, su_6_8, su_6_9, su_6_10, su_7_1, su_7_2, su_7_3, su_7_4, su_7_5, su_7_6, su_7_8, su_7_9, su_7_10, su_8_1, su_8_2, su_8_3, su_8_4, su_8_5, su_8_6, su_8_7, su_8_9, su_8_10, su_9_1, su_9_2, su_9_3, su_9_4, su_9_5, su_9_6, su_9_7, su_9_8, su_9_10, su_10_1, su_10_2, su_10_3, su_10_4, su_10_5, su_10_6, su_10_7, su_10_8, su_10_9]
    rw [rdM_ww hne (by omega)]
    refine jJ_aload_n (pc := 22) dX3_push_22 rfl ?_
    refine jJ_dup (pc := 23) dX3_push_23 rfl ?_
    refine jJ_geti (pc := 24) dX3_push_24 fX3_19 rfl (by assumption) ?_
    try simp only [rdM_g1, rdM_g2, rdM_g3, rdM_g4, rdM_g5, rdM_g6, rdM_g7, rdM_g8, rdM_g9, rdM_g10, rdM_p1, rdM_p2, rdM_p3, rdM_p4, rdM_p5, rdM_p6, rdM_p7, rdM_p8, rdM_p9, rdM_p10, rdM_r, rdM_w, su_s, su_1_2, su_1_3, su_1_4, su_1_5, su_1_6, su_1_7, su_1_8, su_1_9, su_1_10, su_2_1, su_2_3, su_2_4, su_2_5, su_2_6, su_2_7, su_2_8, su_2_9, su_2_10, su_3_1, su_3_2, su_3_4, su_3_5, su_3_6, su_3_7, su_3_8, su_3_9, su_3_10, su_4_1, su_4_2, su_4_3, su_4_5, su_4_6, su_4_7, su_4_8, su_4_9, su_4_10, su_5_1, su_5_2, su_5_3, su_5_4, su_5_6, su_5_7, su_5_8, su_5_9, su_5_10, su_6_1, su_6_2, su_6_3, su_6_4, su_6_5, su_6_7, su_6_8, su_6_9, su_6_10, su_7_1, su_7_2, su_7_3, su_7_4, su_7_5, su_7_6, su_7_8, su_7_9, su_7_10, su_8_1, su_8_2, su_8_3, su_8_4, su_8_5, su_8_6, su_8_7, su_8_9, su_8_10, su_9_1, su_9_2, su_9_3, su_9_4, su_9_5, su_9_6, su_9_7, su_9_8, su_9_10, su_10_1, su_10_2, su_10_3, su_10_4, su_10_5, su_10_6, su_10_7, su_10_8, su_10_9]
    refine jJ_iconst (pc := 27) dX3_push_27 (by decide) ?_
    refine jJ_iadd (pc := 28) dX3_push_28 ⟨by omega, by omega⟩ ?_
    refine jJ_puti (pc := 29) dX3_push_29 fX3_19w rfl ⟨rfl, rfl⟩ (by assumption) ?_
    try simp only [rdM_g1, rdM_g2, rdM_g3, rdM_g4, rdM_g5, rdM_g6, rdM_g7, rdM_g8, rdM_g9, rdM_g10, rdM_p1, rdM_p2, rdM_p3, rdM_p4, rdM_p5, rdM_p6, rdM_p7, rdM_p8, rdM_p9, rdM_p10, rdM_r, rdM_w, su_s, su_1_2, su_1_3, su_1_4, su_1_5, su_1_6, su_1_7, su_1_8, su_1_9, su_1_10, su_2_1, su_2_3, su_2_4, su_2_5, su_2_6, su_2_7, su_2_8, su_2_9, su_2_10, su_3_1, su_3_2, su_3_4, su_3_5, su_3_6, su_3_7, su_3_8, su_3_9, su_3_10, su_4_1, su_4_2, su_4_3, su_4_5, su_4_6, su_4_7, su_4_8, su_4_9, su_4_10, su_5_1, su_5_2, su_5_3, su_5_4, su_5_6, su_5_7, su_5_8, su_5_9, su_5_10, su_6_1, su_6_2, su_6_3, su_6_4, su_6_5, su_6_7, su_6_8, su_6_9, su_6_10, su_7_1, su_7_2, su_7_3, su_7_4, su_7_5, su_7_6, su_7_8, su_7_9, su_7_10, su_8_1, su_8_2, su_8_3, su_8_4, su_8_5, su_8_6, su_8_7, su_8_9, su_8_10, su_9_1, su_9_2, su_9_3, su_9_4, su_9_5, su_9_6, su_9_7, su_9_8, su_9_10, su_10_1, su_10_2, su_10_3, su_10_4, su_10_5, su_10_6, su_10_7, su_10_8, su_10_9]
    refine jJ_goto (pc := 32) (tgt := 40) dX3_push_32 (by decide) ?_
    refine jJ_iconst (pc := 40) dX3_push_40 (by decide) ?_
    refine jJ_zret (pc := 41) dX3_push_41 rfl (by decide) ?_
    exact ⟨rfl, by unfold pushS pushR; (repeat' split) <;> first | rfl | (exfalso; omega), rfl⟩
def endBrS (s r : Nat → Int) : Nat → Int := su (su s 4 (if rInner s r = 1 then 8 else 7)) 1 (s 1 - 1)
theorem c_Rd_endBracket (h : RdL E P rd op) (hs : 0 ≤ s 1 ∧ s 1 ≤ 6) (hd : 1 ≤ d) : jC E yX3_endBracket cX3_endBracket 1 (some .boolean) d [jp rd] (rdM I rd op s r) P (jD (some (ji 1)) (rdM I rd op (endBrS s r) r) P) := by
  have h0 := h.1
  refine jC_intro (by decide +kernel) (by simp [jc, va_rf, Value.category]) (Nat.le_of_ble_eq_true rfl) ?_
  refine jJ_aload_n (pc := 0) dX3_endBracket_0 rfl ?_
  refine jJ_aload_n (pc := 1) dX3_endBracket_1 rfl ?_
  refine jJ_callVd (pc := 2) (as := []) dX3_endBracket_2 mX3_149 (jRcv_of (by assumption) rfl rfl) (Nat.le_of_ble_eq_true rfl) (jRm_ok (by omega) (by decide)) (c_Rd_innermost (d := d - 1) h ⟨by omega, by omega⟩) ?_
  try simp only [rdM_g1, rdM_g2, rdM_g3, rdM_g4, rdM_g5, rdM_g6, rdM_g7, rdM_g8, rdM_g9, rdM_g10, rdM_p1, rdM_p2, rdM_p3, rdM_p4, rdM_p5, rdM_p6, rdM_p7, rdM_p8, rdM_p9, rdM_p10, rdM_r, rdM_w, su_s, su_1_2, su_1_3, su_1_4, su_1_5, su_1_6, su_1_7, su_1_8, su_1_9, su_1_10, su_2_1, su_2_3, su_2_4, su_2_5, su_2_6, su_2_7, su_2_8, su_2_9, su_2_10, su_3_1, su_3_2, su_3_4, su_3_5, su_3_6, su_3_7, su_3_8, su_3_9, su_3_10, su_4_1, su_4_2, su_4_3, su_4_5, su_4_6, su_4_7, su_4_8, su_4_9, su_4_10, su_5_1, su_5_2, su_5_3, su_5_4, su_5_6, su_5_7, su_5_8, su_5_9, su_5_10, su_6_1, su_6_2, su_6_3, su_6_4, su_6_5, su_6_7, su_6_8, su_6_9, su_6_10, su_7_1, su_7_2, su_7_3, su_7_4, su_7_5, su_7_6, su_7_8, su_7_9, su_7_10, su_8_1, su_8_2, su_8_3, su_8_4, su_8_5, su_8_6, su_8_7, su_8_9, su_8_10, su_9_1, su_9_2, su_9_3, su_9_4, su_9_5, su_9_6, su_9_7, su_9_8, su_9_10, su_10_1, su_10_2, su_10_3, su_10_4, su_10_5, su_10_6, su_10_7, su_10_8, su_10_9]
  refine jJ_iconst (pc := 5) dX3_endBracket_5 (by decide) ?_
  refine jJ_icmp_ne (pc := 6) (tgt := 14) dX3_endBracket_6 (by decide) (fun c6 => ?_) (fun c6 => ?_)
  · refine jJ_bipush (pc := 14) dX3_endBracket_14 (by decide) ?_
    refine jJ_puti (pc := 16) dX3_endBracket_16 fX3_29w rfl ⟨rfl, rfl⟩ (by assumption) ?_
    try simp only [rdM_g1, rdM_g2, rdM_g3, rdM_g4, rdM_g5, rdM_g6, rdM_g7, rdM_g8, rdM_g9, rdM_g10, rdM_p1, rdM_p2, rdM_p3, rdM_p4, rdM_p5, rdM_p6, rdM_p7, rdM_p8, rdM_p9, rdM_p10, rdM_r, rdM_w, su_s, su_1_2, su_1_3, su_1_4, su_1_5, su_1_6, su_1_7, su_1_8, su_1_9, su_1_10, su_2_1, su_2_3, su_2_4, su_2_5, su_2_6, su_2_7, su_2_8, su_2_9, su_2_10, su_3_1, su_3_2, su_3_4, su_3_5, su_3_6, su_3_7, su_3_8, su_3_9, su_3_10, su_4_1, su_4_2, su_4_3, su_4_5, su_4_6, su_4_7, su_4_8, su_4_9, su_4_10, su_5_1, su_5_2, su_5_3, su_5_4, su_5_6, su_5_7, su_5_8, su_5_9, su_5_10, su_6_1, su_6_2, su_6_3, su_6_4, su_6_5, su_6_7, su_6_8, su_6_9, su_6_10, su_7_1, su_7_2, su_7_3, su_7_4, su_7_5, su_7_6, su_7_8, su_7_9, su_7_10, su_8_1, su_8_2, su_8_3, su_8_4, su_8_5, su_8_6, su_8_7, su_8_9, su_8_10, su_9_1, su_9_2, su_9_3, su_9_4, su_9_5, su_9_6, su_9_7, su_9_8, su_9_10, su_10_1, su_10_2, su_10_3, su_10_4, su_10_5, su_10_6, su_10_7, su_10_8, su_10_9]
    refine jJ_aload_n (pc := 19) dX3_endBracket_19 rfl ?_
    refine jJ_dup (pc := 20) dX3_endBracket_20 rfl ?_
    refine jJ_geti (pc := 21) dX3_endBracket_21 fX3_19 rfl (by assumption) ?_
    try simp only [rdM_g1, rdM_g2, rdM_g3, rdM_g4, rdM_g5, rdM_g6, rdM_g7, rdM_g8, rdM_g9, rdM_g10, rdM_p1, rdM_p2, rdM_p3, rdM_p4, rdM_p5, rdM_p6, rdM_p7, rdM_p8, rdM_p9, rdM_p10, rdM_r, rdM_w, su_s, su_1_2, su_1_3, su_1_4, su_1_5, su_1_6, su_1_7, su_1_8, su_1_9, su_1_10, su_2_1, su_2_3, su_2_4, su_2_5, su_2_6, su_2_7, su_2_8, su_2_9, su_2_10, su_3_1, su_3_2, su_3_4, su_3_5, su_3_6, su_3_7, su_3_8, su_3_9, su_3_10, su_4_1, su_4_2, su_4_3, su_4_5, su_4_6, su_4_7, su_4_8, su_4_9, su_4_10, su_5_1, su_5_2, su_5_3, su_5_4, su_5_6, su_5_7, su_5_8, su_5_9, su_5_10, su_6_1, su_6_2, su_6_3, su_6_4, su_6_5, su_6_7, su_6_8, su_6_9, su_6_10, su_7_1, su_7_2, su_7_3, su_7_4, su_7_5, su_7_6, su_7_8, su_7_9, su_7_10, su_8_1, su_8_2, su_8_3, su_8_4, su_8_5, su_8_6, su_8_7, su_8_9, su_8_10, su_9_1, su_9_2, su_9_3, su_9_4, su_9_5, su_9_6, su_9_7, su_9_8, su_9_10, su_10_1, su_10_2, su_10_3, su_10_4, su_10_5, su_10_6, su_10_7, su_10_8, su_10_9]
    refine jJ_iconst (pc := 24) dX3_endBracket_24 (by decide) ?_
    refine jJ_isub (pc := 25) dX3_endBracket_25 ⟨by omega, by omega⟩ ?_
    refine jJ_puti (pc := 26) dX3_endBracket_26 fX3_19w rfl ⟨rfl, rfl⟩ (by assumption) ?_
    try simp only [rdM_g1, rdM_g2, rdM_g3, rdM_g4, rdM_g5, rdM_g6, rdM_g7, rdM_g8, rdM_g9, rdM_g10, rdM_p1, rdM_p2, rdM_p3, rdM_p4, rdM_p5, rdM_p6, rdM_p7, rdM_p8, rdM_p9, rdM_p10, rdM_r, rdM_w, su_s, su_1_2, su_1_3, su_1_4, su_1_5, su_1_6, su_1_7, su_1_8, su_1_9, su_1_10, su_2_1, su_2_3, su_2_4, su_2_5, su_2_6, su_2_7, su_2_8, su_2_9, su_2_10, su_3_1, su_3_2, su_3_4, su_3_5, su_3_6, su_3_7, su_3_8, su_3_9, su_3_10, su_4_1, su_4_2, su_4_3, su_4_5, su_4_6, su_4_7, su_4_8, su_4_9, su_4_10, su_5_1, su_5_2, su_5_3, su_5_4, su_5_6, su_5_7, su_5_8, su_5_9, su_5_10, su_6_1, su_6_2, su_6_3, su_6_4, su_6_5, su_6_7, su_6_8, su_6_9, su_6_10, su_7_1, su_7_2, su_7_3, su_7_4, su_7_5, su_7_6, su_7_8, su_7_9, su_7_10, su_8_1, su_8_2, su_8_3, su_8_4, su_8_5, su_8_6, su_8_7, su_8_9, su_8_10, su_9_1, su_9_2, su_9_3, su_9_4, su_9_5, su_9_6, su_9_7, su_9_8, su_9_10, su_10_1, su_10_2, su_10_3, su_10_4, su_10_5, su_10_6, su_10_7, su_10_8, su_10_9]
    refine jJ_iconst (pc := 29) dX3_endBracket_29 (by decide) ?_
    refine jJ_zret (pc := 30) dX3_endBracket_30 rfl (by decide) ?_
    exact ⟨rfl, by unfold endBrS; split <;> first | rfl | (exfalso; omega), rfl⟩
  · refine jJ_bipush (pc := 9) dX3_endBracket_9 (by decide) ?_
    refine jJ_goto (pc := 11) (tgt := 16) dX3_endBracket_11 (by decide) ?_
    refine jJ_puti (pc := 16) dX3_endBracket_16 fX3_29w rfl ⟨rfl, rfl⟩ (by assumption) ?_
    try simp only [rdM_g1, rdM_g2, rdM_g3, rdM_g4, rdM_g5, rdM_g6, rdM_g7, rdM_g8, rdM_g9, rdM_g10, rdM_p1, rdM_p2, rdM_p3, rdM_p4, rdM_p5, rdM_p6, rdM_p7, rdM_p8, rdM_p9, rdM_p10, rdM_r, rdM_w, su_s, su_1_2, su_1_3, su_1_4, su_1_5, su_1_6, su_1_7, su_1_8, su_1_9, su_1_10, su_2_1, su_2_3, su_2_4, su_2_5, su_2_6, su_2_7, su_2_8, su_2_9, su_2_10, su_3_1, su_3_2, su_3_4, su_3_5, su_3_6, su_3_7, su_3_8, su_3_9, su_3_10, su_4_1, su_4_2, su_4_3, su_4_5, su_4_6, su_4_7, su_4_8, su_4_9, su_4_10, su_5_1, su_5_2, su_5_3, su_5_4, su_5_6, su_5_7, su_5_8, su_5_9, su_5_10, su_6_1, su_6_2, su_6_3, su_6_4, su_6_5, su_6_7, su_6_8, su_6_9, su_6_10, su_7_1, su_7_2, su_7_3, su_7_4, su_7_5, su_7_6, su_7_8, su_7_9, su_7_10, su_8_1, su_8_2, su_8_3, su_8_4, su_8_5, su_8_6, su_8_7, su_8_9, su_8_10, su_9_1, su_9_2, su_9_3, su_9_4, su_9_5, su_9_6, su_9_7, su_9_8, su_9_10, su_10_1, su_10_2, su_10_3, su_10_4, su_10_5, su_10_6, su_10_7, su_10_8, su_10_9]
    refine jJ_aload_n (pc := 19) dX3_endBracket_19 rfl ?_
    refine jJ_dup (pc := 20) dX3_endBracket_20 rfl ?_
    refine jJ_geti (pc := 21) dX3_endBracket_21 fX3_19 rfl (by assumption) ?_
    try simp only [rdM_g1, rdM_g2, rdM_g3, rdM_g4, rdM_g5, rdM_g6, rdM_g7, rdM_g8, rdM_g9, rdM_g10, rdM_p1, rdM_p2, rdM_p3, rdM_p4, rdM_p5, rdM_p6, rdM_p7, rdM_p8, rdM_p9, rdM_p10, rdM_r, rdM_w, su_s, su_1_2, su_1_3, su_1_4, su_1_5, su_1_6, su_1_7, su_1_8, su_1_9, su_1_10, su_2_1, su_2_3, su_2_4, su_2_5, su_2_6, su_2_7, su_2_8, su_2_9, su_2_10, su_3_1, su_3_2, su_3_4, su_3_5, su_3_6, su_3_7, su_3_8, su_3_9, su_3_10, su_4_1, su_4_2, su_4_3, su_4_5, su_4_6, su_4_7, su_4_8, su_4_9, su_4_10, su_5_1, su_5_2, su_5_3, su_5_4, su_5_6, su_5_7, su_5_8, su_5_9, su_5_10, su_6_1, su_6_2, su_6_3, su_6_4, su_6_5, su_6_7, su_6_8, su_6_9, su_6_10, su_7_1, su_7_2, su_7_3, su_7_4, su_7_5, su_7_6, su_7_8, su_7_9, su_7_10, su_8_1, su_8_2, su_8_3, su_8_4, su_8_5, su_8_6, su_8_7, su_8_9, su_8_10, su_9_1, su_9_2, su_9_3, su_9_4, su_9_5, su_9_6, su_9_7, su_9_8, su_9_10, su_10_1, su_10_2, su_10_3, su_10_4, su_10_5, su_10_6, su_10_7, su_10_8, su_10_9]
    refine jJ_iconst (pc := 24) dX3_endBracket_24 (by decide) ?_
    refine jJ_isub (pc := 25) dX3_endBracket_25 ⟨by omega, by omega⟩ ?_
    refine jJ_puti (pc := 26) dX3_endBracket_26 fX3_19w rfl ⟨rfl, rfl⟩ (by assumption) ?_
    try simp only [rdM_g1, rdM_g2, rdM_g3, rdM_g4, rdM_g5, rdM_g6, rdM_g7, rdM_g8, rdM_g9, rdM_g10, rdM_p1, rdM_p2, rdM_p3, rdM_p4, rdM_p5, rdM_p6, rdM_p7, rdM_p8, rdM_p9, rdM_p10, rdM_r, rdM_w, su_s, su_1_2, su_1_3, su_1_4, su_1_5, su_1_6, su_1_7, su_1_8, su_1_9, su_1_10, su_2_1, su_2_3, su_2_4, su_2_5, su_2_6, su_2_7, su_2_8, su_2_9, su_2_10, su_3_1, su_3_2, su_3_4, su_3_5, su_3_6, su_3_7, su_3_8, su_3_9, su_3_10, su_4_1, su_4_2, su_4_3, su_4_5, su_4_6, su_4_7, su_4_8, su_4_9, su_4_10, su_5_1, su_5_2, su_5_3, su_5_4, su_5_6, su_5_7, su_5_8, su_5_9, su_5_10, su_6_1, su_6_2, su_6_3, su_6_4, su_6_5, su_6_7, su_6_8, su_6_9, su_6_10, su_7_1, su_7_2, su_7_3, su_7_4, su_7_5, su_7_6, su_7_8, su_7_9, su_7_10, su_8_1, su_8_2, su_8_3, su_8_4, su_8_5, su_8_6, su_8_7, su_8_9, su_8_10, su_9_1, su_9_2, su_9_3, su_9_4, su_9_5, su_9_6, su_9_7, su_9_8, su_9_10, su_10_1, su_10_2, su_10_3, su_10_4, su_10_5, su_10_6, su_10_7, su_10_8, su_10_9]
    refine jJ_iconst (pc := 29) dX3_endBracket_29 (by decide) ?_
    refine jJ_zret (pc := 30) dX3_endBracket_30 rfl (by decide) ?_
    exact ⟨rfl, by unfold endBrS; split <;> first | rfl | (exfalso; omega), rfl⟩
def endBlS (s r : Nat → Int) : Nat → Int := if rInner s r = -1 then s else su (su (su (su s 1 (s 1 - 1)) 2 (s 2 - 1)) 5 (if rInner s r = 4 then 3 else 2)) 4 (if rInner s r = 2 then 1 else 0)
theorem c_Rd_endBlock (h : RdL E P rd op) (hs : 0 ≤ s 1 ∧ s 1 ≤ 6) (hs2 : -1000 ≤ s 2 ∧ s 2 ≤ 1000) (hd : 1 ≤ d) : jC E yX3_endBlock cX3_endBlock 2 (some .boolean) d [jp rd] (rdM I rd op s r) P (jD (some (ji (jb (rInner s r ≠ -1)))) (rdM I rd op (endBlS s r) r) P) := by
  have h0 := h.1
  refine jC_intro (by decide +kernel) (by simp [jc, va_rf, Value.category]) (Nat.le_of_ble_eq_true rfl) ?_
  refine jJ_aload_n (pc := 0) dX3_endBlock_0 rfl ?_
  refine jJ_callVd (pc := 1) (as := []) dX3_endBlock_1 mX3_149 (jRcv_of (by assumption) rfl rfl) (Nat.le_of_ble_eq_true rfl) (jRm_ok (by omega) (by decide)) (c_Rd_innermost (d := d - 1) h ⟨by omega, by omega⟩) ?_
  try simp only [rdM_g1, rdM_g2, rdM_g3, rdM_g4, rdM_g5, rdM_g6, rdM_g7, rdM_g8, rdM_g9, rdM_g10, rdM_p1, rdM_p2, rdM_p3, rdM_p4, rdM_p5, rdM_p6, rdM_p7, rdM_p8, rdM_p9, rdM_p10, rdM_r, rdM_w, su_s, su_1_2, su_1_3, su_1_4, su_1_5, su_1_6, su_1_7, su_1_8, su_1_9, su_1_10, su_2_1, su_2_3, su_2_4, su_2_5, su_2_6, su_2_7, su_2_8, su_2_9, su_2_10, su_3_1, su_3_2, su_3_4, su_3_5, su_3_6, su_3_7, su_3_8, su_3_9, su_3_10, su_4_1, su_4_2, su_4_3, su_4_5, su_4_6, su_4_7, su_4_8, su_4_9, su_4_10, su_5_1, su_5_2, su_5_3, su_5_4, su_5_6, su_5_7, su_5_8, su_5_9, su_5_10, su_6_1, su_6_2, su_6_3, su_6_4, su_6_5, su_6_7, su_6_8, su_6_9, su_6_10, su_7_1, su_7_2, su_7_3, su_7_4, su_7_5, su_7_6, su_7_8, su_7_9, su_7_10, su_8_1, su_8_2, su_8_3, su_8_4, su_8_5, su_8_6, su_8_7, su_8_9, su_8_10, su_9_1, su_9_2, su_9_3, su_9_4, su_9_5, su_9_6, su_9_7, su_9_8, su_9_10, su_10_1, su_10_2, su_10_3, su_10_4, su_10_5, su_10_6, su_10_7, su_10_8, su_10_9]
  refine jJ_istore_n (pc := 4) (ls' := [_, _]) dX3_endBlock_4 (Nat.le_of_ble_eq_true rfl) rfl ?_
  refine jJ_iload_n (pc := 5) dX3_endBlock_5 rfl ?_
  refine jJ_iconst (pc := 6) dX3_endBlock_6 (by decide) ?_
  refine jJ_icmp_ne (pc := 7) (tgt := 12) dX3_endBlock_7 (by decide) (fun c7 => ?_) (fun c7 => ?_)
  · refine jJ_aload_n (pc := 12) dX3_endBlock_12 rfl ?_
    refine jJ_dup (pc := 13) dX3_endBlock_13 rfl ?_
    refine jJ_geti (pc := 14) dX3_endBlock_14 fX3_19 rfl (by assumption) ?_
    try simp only [rdM_g1, rdM_g2, rdM_g3, rdM_g4, rdM_g5, rdM_g6, rdM_g7, rdM_g8, rdM_g9, rdM_g10, rdM_p1, rdM_p2, rdM_p3, rdM_p4, rdM_p5, rdM_p6, rdM_p7, rdM_p8, rdM_p9, rdM_p10, rdM_r, rdM_w, su_s, su_1_2, su_1_3, su_1_4, su_1_5, su_1_6, su_1_7, su_1_8, su_1_9, su_1_10, su_2_1, su_2_3, su_2_4, su_2_5, su_2_6, su_2_7, su_2_8, su_2_9, su_2_10, su_3_1, su_3_2, su_3_4, su_3_5, su_3_6, su_3_7, su_3_8, su_3_9, su_3_10, su_4_1, su_4_2, su_4_3, su_4_5, su_4_6, su_4_7, su_4_8, su_4_9, su_4_10, su_5_1, su_5_2, su_5_3, su_5_4, su_5_6, su_5_7, su_5_8, su_5_9, su_5_10, su_6_1, su_6_2, su_6_3, su_6_4, su_6_5, su_6_7, su_6_8, su_6_9, su_6_10, su_7_1, su_7_2, su_7_3, su_7_4, su_7_5, su_7_6, su_7_8, su_7_9, su_7_10, su_8_1, su_8_2, su_8_3, su_8_4, su_8_5, su_8_6, su_8_7, su_8_9, su_8_10, su_9_1, su_9_2, su_9_3, su_9_4, su_9_5, su_9_6, su_9_7, su_9_8, su_9_10, su_10_1, su_10_2, su_10_3, su_10_4, su_10_5, su_10_6, su_10_7, su_10_8, su_10_9]
    refine jJ_iconst (pc := 17) dX3_endBlock_17 (by decide) ?_
    refine jJ_isub (pc := 18) dX3_endBlock_18 ⟨by omega, by omega⟩ ?_
    refine jJ_puti (pc := 19) dX3_endBlock_19 fX3_19w rfl ⟨rfl, rfl⟩ (by assumption) ?_
    try simp only [rdM_g1, rdM_g2, rdM_g3, rdM_g4, rdM_g5, rdM_g6, rdM_g7, rdM_g8, rdM_g9, rdM_g10, rdM_p1, rdM_p2, rdM_p3, rdM_p4, rdM_p5, rdM_p6, rdM_p7, rdM_p8, rdM_p9, rdM_p10, rdM_r, rdM_w, su_s, su_1_2, su_1_3, su_1_4, su_1_5, su_1_6, su_1_7, su_1_8, su_1_9, su_1_10, su_2_1, su_2_3, su_2_4, su_2_5, su_2_6, su_2_7, su_2_8, su_2_9, su_2_10, su_3_1, su_3_2, su_3_4, su_3_5, su_3_6, su_3_7, su_3_8, su_3_9, su_3_10, su_4_1, su_4_2, su_4_3, su_4_5, su_4_6, su_4_7, su_4_8, su_4_9, su_4_10, su_5_1, su_5_2, su_5_3, su_5_4, su_5_6, su_5_7, su_5_8, su_5_9, su_5_10, su_6_1, su_6_2, su_6_3, su_6_4, su_6_5, su_6_7, su_6_8, su_6_9, su_6_10, su_7_1, su_7_2, su_7_3, su_7_4, su_7_5, su_7_6, su_7_8, su_7_9, su_7_10, su_8_1, su_8_2, su_8_3, su_8_4, su_8_5, su_8_6, su_8_7, su_8_9, su_8_10, su_9_1, su_9_2, su_9_3, su_9_4, su_9_5, su_9_6, su_9_7, su_9_8, su_9_10, su_10_1, su_10_2, su_10_3, su_10_4, su_10_5, su_10_6, su_10_7, su_10_8, su_10_9]
    refine jJ_aload_n (pc := 22) dX3_endBlock_22 rfl ?_
    refine jJ_dup (pc := 23) dX3_endBlock_23 rfl ?_
    refine jJ_geti (pc := 24) dX3_endBlock_24 fX3_22 rfl (by assumption) ?_
    try simp only [rdM_g1, rdM_g2, rdM_g3, rdM_g4, rdM_g5, rdM_g6, rdM_g7, rdM_g8, rdM_g9, rdM_g10, rdM_p1, rdM_p2, rdM_p3, rdM_p4, rdM_p5, rdM_p6, rdM_p7, rdM_p8, rdM_p9, rdM_p10, rdM_r, rdM_w, su_s, su_1_2, su_1_3, su_1_4, su_1_5, su_1_6, su_1_7, su_1_8, su_1_9, su_1_10, su_2_1, su_2_3, su_2_4, su_2_5, su_2_6, su_2_7, su_2_8, su_2_9, su_2_10, su_3_1, su_3_2, su_3_4, su_3_5, su_3_6, su_3_7, su_3_8, su_3_9, su_3_10, su_4_1, su_4_2, su_4_3, su_4_5, su_4_6, su_4_7, su_4_8, su_4_9, su_4_10, su_5_1, su_5_2, su_5_3, su_5_4, su_5_6, su_5_7, su_5_8, su_5_9, su_5_10, su_6_1, su_6_2, su_6_3, su_6_4, su_6_5, su_6_7, su_6_8, su_6_9, su_6_10, su_7_1, su_7_2, su_7_3, su_7_4, su_7_5, su_7_6, su_7_8, su_7_9, su_7_10, su_8_1, su_8_2, su_8_3, su_8_4, su_8_5, su_8_6, su_8_7, su_8_9, su_8_10, su_9_1, su_9_2, su_9_3, su_9_4, su_9_5, su_9_6, su_9_7, su_9_8, su_9_10, su_10_1, su_10_2, su_10_3, su_10_4, su_10_5, su_10_6, su_10_7, su_10_8, su_10_9]
    refine jJ_iconst (pc := 27) dX3_endBlock_27 (by decide) ?_
    refine jJ_isub (pc := 28) dX3_endBlock_28 ⟨by omega, by omega⟩ ?_
    refine jJ_puti (pc := 29) dX3_endBlock_29 fX3_22w rfl ⟨rfl, rfl⟩ (by assumption) ?_
    try simp only [rdM_g1, rdM_g2, rdM_g3, rdM_g4, rdM_g5, rdM_g6, rdM_g7, rdM_g8, rdM_g9, rdM_g10, rdM_p1, rdM_p2, rdM_p3, rdM_p4, rdM_p5, rdM_p6, rdM_p7, rdM_p8, rdM_p9, rdM_p10, rdM_r, rdM_w, su_s, su_1_2, su_1_3, su_1_4, su_1_5, su_1_6, su_1_7, su_1_8, su_1_9, su_1_10, su_2_1, su_2_3, su_2_4, su_2_5, su_2_6, su_2_7, su_2_8, su_2_9, su_2_10, su_3_1, su_3_2, su_3_4, su_3_5, su_3_6, su_3_7, su_3_8, su_3_9, su_3_10, su_4_1, su_4_2, su_4_3, su_4_5, su_4_6, su_4_7, su_4_8, su_4_9, su_4_10, su_5_1, su_5_2, su_5_3, su_5_4, su_5_6, su_5_7, su_5_8, su_5_9, su_5_10, su_6_1, su_6_2, su_6_3, su_6_4, su_6_5, su_6_7, su_6_8, su_6_9, su_6_10, su_7_1, su_7_2, su_7_3, su_7_4, su_7_5, su_7_6, su_7_8, su_7_9, su_7_10, su_8_1, su_8_2, su_8_3, su_8_4, su_8_5, su_8_6, su_8_7, su_8_9, su_8_10, su_9_1, su_9_2, su_9_3, su_9_4, su_9_5, su_9_6, su_9_7, su_9_8, su_9_10, su_10_1, su_10_2, su_10_3, su_10_4, su_10_5, su_10_6, su_10_7, su_10_8, su_10_9]
    refine jJ_aload_n (pc := 32) dX3_endBlock_32 rfl ?_
    refine jJ_iload_n (pc := 33) dX3_endBlock_33 rfl ?_
    refine jJ_iconst (pc := 34) dX3_endBlock_34 (by decide) ?_
    refine jJ_icmp_ne (pc := 35) (tgt := 42) dX3_endBlock_35 (by decide) (fun c35 => ?_) (fun c35 => ?_)
    · refine jJ_iconst (pc := 42) dX3_endBlock_42 (by decide) ?_
      refine jJ_puti (pc := 43) dX3_endBlock_43 fX3_32w rfl ⟨rfl, rfl⟩ (by assumption) ?_
      try simp only [rdM_g1, rdM_g2, rdM_g3, rdM_g4, rdM_g5, rdM_g6, rdM_g7, rdM_g8, rdM_g9, rdM_g10, rdM_p1, rdM_p2, rdM_p3, rdM_p4, rdM_p5, rdM_p6, rdM_p7, rdM_p8, rdM_p9, rdM_p10, rdM_r, rdM_w, su_s, su_1_2, su_1_3, su_1_4, su_1_5, su_1_6, su_1_7, su_1_8, su_1_9, su_1_10, su_2_1, su_2_3, su_2_4, su_2_5, su_2_6, su_2_7, su_2_8, su_2_9, su_2_10, su_3_1, su_3_2, su_3_4, su_3_5, su_3_6, su_3_7, su_3_8, su_3_9, su_3_10, su_4_1, su_4_2, su_4_3, su_4_5, su_4_6, su_4_7, su_4_8, su_4_9, su_4_10, su_5_1, su_5_2, su_5_3, su_5_4, su_5_6, su_5_7, su_5_8, su_5_9, su_5_10, su_6_1, su_6_2, su_6_3, su_6_4, su_6_5, su_6_7, su_6_8, su_6_9, su_6_10, su_7_1, su_7_2, su_7_3, su_7_4, su_7_5, su_7_6, su_7_8, su_7_9, su_7_10, su_8_1, su_8_2, su_8_3, su_8_4, su_8_5, su_8_6, su_8_7, su_8_9, su_8_10, su_9_1, su_9_2, su_9_3, su_9_4, su_9_5, su_9_6, su_9_7, su_9_8, su_9_10, su_10_1, su_10_2, su_10_3, su_10_4, su_10_5, su_10_6, su_10_7, su_10_8, su_10_9]
      refine jJ_aload_n (pc := 46) dX3_endBlock_46 rfl ?_
      refine jJ_iload_n (pc := 47) dX3_endBlock_47 rfl ?_
      refine jJ_iconst (pc := 48) dX3_endBlock_48 (by decide) ?_
      refine jJ_icmp_ne (pc := 49) (tgt := 56) dX3_endBlock_49 (by decide) (fun c49 => ?_) (fun c49 => ?_)
      · refine jJ_iconst (pc := 56) dX3_endBlock_56 (by decide) ?_
        refine jJ_puti (pc := 57) dX3_endBlock_57 fX3_29w rfl ⟨rfl, rfl⟩ (by assumption) ?_
        try simp only [rdM_g1, rdM_g2, rdM_g3, rdM_g4, rdM_g5, rdM_g6, rdM_g7, rdM_g8, rdM_g9, rdM_g10, rdM_p1, rdM_p2, rdM_p3, rdM_p4, rdM_p5, rdM_p6, rdM_p7, rdM_p8, rdM_p9, rdM_p10, rdM_r, rdM_w, su_s, su_1_2, su_1_3, su_1_4, su_1_5, su_1_6, su_1_7, su_1_8, su_1_9, su_1_10, su_2_1, su_2_3, su_2_4, su_2_5, su_2_6, su_2_7, su_2_8, su_2_9, su_2_10, su_3_1, su_3_2, su_3_4, su_3_5, su_3_6, su_3_7, su_3_8, su_3_9, su_3_10, su_4_1, su_4_2, su_4_3, su_4_5, su_4_6, su_4_7, su_4_8, su_4_9, su_4_10, su_5_1, su_5_2, su_5_3, su_5_4, su_5_6, su_5_7, su_5_8, su_5_9, su_5_10, su_6_1, su_6_2, su_6_3, su_6_4, su_6_5, su_6_7, su_6_8, su_6_9, su_6_10, su_7_1, su_7_2, su_7_3, su_7_4, su_7_5, su_7_6, su_7_8, su_7_9, su_7_10, su_8_1, su_8_2, su_8_3, su_8_4, su_8_5, su_8_6, su_8_7, su_8_9, su_8_10, su_9_1, su_9_2, su_9_3, su_9_4, su_9_5, su_9_6, su_9_7, su_9_8, su_9_10, su_10_1, su_10_2, su_10_3, su_10_4, su_10_5, su_10_6, su_10_7, su_10_8, su_10_9]
        refine jJ_iconst (pc := 60) dX3_endBlock_60 (by decide) ?_
        refine jJ_zret (pc := 61) dX3_endBlock_61 rfl (by decide) ?_
        exact ⟨by first | rw [← jb_t (by omega)] | rw [← jb_f (by omega)], by unfold endBlS; (repeat' split) <;> first | rfl | (exfalso; omega), rfl⟩
      · refine jJ_iconst (pc := 52) dX3_endBlock_52 (by decide) ?_
        refine jJ_goto (pc := 53) (tgt := 57) dX3_endBlock_53 (by decide) ?_
        refine jJ_puti (pc := 57) dX3_endBlock_57 fX3_29w rfl ⟨rfl, rfl⟩ (by assumption) ?_
        try simp only [rdM_g1, rdM_g2, rdM_g3, rdM_g4, rdM_g5, rdM_g6, rdM_g7, rdM_g8, rdM_g9, rdM_g10, rdM_p1, rdM_p2, rdM_p3, rdM_p4, rdM_p5, rdM_p6, rdM_p7, rdM_p8, rdM_p9, rdM_p10, rdM_r, rdM_w, su_s, su_1_2, su_1_3, su_1_4, su_1_5, su_1_6, su_1_7, su_1_8, su_1_9, su_1_10, su_2_1, su_2_3, su_2_4, su_2_5, su_2_6, su_2_7, su_2_8, su_2_9, su_2_10, su_3_1, su_3_2, su_3_4, su_3_5, su_3_6, su_3_7, su_3_8, su_3_9, su_3_10, su_4_1, su_4_2, su_4_3, su_4_5, su_4_6, su_4_7, su_4_8, su_4_9, su_4_10, su_5_1, su_5_2, su_5_3, su_5_4, su_5_6, su_5_7, su_5_8, su_5_9, su_5_10, su_6_1, su_6_2, su_6_3, su_6_4, su_6_5, su_6_7, su_6_8, su_6_9, su_6_10, su_7_1, su_7_2, su_7_3, su_7_4, su_7_5, su_7_6, su_7_8, su_7_9, su_7_10, su_8_1, su_8_2, su_8_3, su_8_4, su_8_5, su_8_6, su_8_7, su_8_9, su_8_10, su_9_1, su_9_2, su_9_3, su_9_4, su_9_5, su_9_6, su_9_7, su_9_8, su_9_10, su_10_1, su_10_2, su_10_3, su_10_4, su_10_5, su_10_6, su_10_7, su_10_8, su_10_9]
        refine jJ_iconst (pc := 60) dX3_endBlock_60 (by decide) ?_
        refine jJ_zret (pc := 61) dX3_endBlock_61 rfl (by decide) ?_
        exact ⟨by first | rw [← jb_t (by omega)] | rw [← jb_f (by omega)], by unfold endBlS; (repeat' split) <;> first | rfl | (exfalso; omega), rfl⟩
    · refine jJ_iconst (pc := 38) dX3_endBlock_38 (by decide) ?_
      refine jJ_goto (pc := 39) (tgt := 43) dX3_endBlock_39 (by decide) ?_
      refine jJ_puti (pc := 43) dX3_endBlock_43 fX3_32w rfl ⟨rfl, rfl⟩ (by assumption) ?_
      try simp only [rdM_g1, rdM_g2, rdM_g3, rdM_g4, rdM_g5, rdM_g6, rdM_g7, rdM_g8, rdM_g9, rdM_g10, rdM_p1, rdM_p2, rdM_p3, rdM_p4, rdM_p5, rdM_p6, rdM_p7, rdM_p8, rdM_p9, rdM_p10, rdM_r, rdM_w, su_s, su_1_2, su_1_3, su_1_4, su_1_5, su_1_6, su_1_7, su_1_8, su_1_9, su_1_10, su_2_1, su_2_3, su_2_4, su_2_5, su_2_6, su_2_7, su_2_8, su_2_9, su_2_10, su_3_1, su_3_2, su_3_4, su_3_5, su_3_6, su_3_7, su_3_8, su_3_9, su_3_10, su_4_1, su_4_2, su_4_3, su_4_5, su_4_6, su_4_7, su_4_8, su_4_9, su_4_10, su_5_1, su_5_2, su_5_3, su_5_4, su_5_6, su_5_7, su_5_8, su_5_9, su_5_10, su_6_1, su_6_2, su_6_3, su_6_4, su_6_5, su_6_7, su_6_8, su_6_9, su_6_10, su_7_1, su_7_2, su_7_3, su_7_4, su_7_5, su_7_6, su_7_8, su_7_9, su_7_10, su_8_1, su_8_2, su_8_3, su_8_4, su_8_5, su_8_6, su_8_7, su_8_9, su_8_10, su_9_1, su_9_2, su_9_3, su_9_4, su_9_5, su_9_6, su_9_7, su_9_8, su_9_10, su_10_1, su_10_2, su_10_3, su_10_4, su_10_5, su_10_6, su_10_7, su_10_8, su_10_9]
      refine jJ_aload_n (pc := 46) dX3_endBlock_46 rfl ?_
      refine jJ_iload_n (pc := 47) dX3_endBlock_47 rfl ?_
      refine jJ_iconst (pc := 48) dX3_endBlock_48 (by decide) ?_
      refine jJ_icmp_ne (pc := 49) (tgt := 56) dX3_endBlock_49 (by decide) (fun c49 => ?_) (fun c49 => ?_)
      · refine jJ_iconst (pc := 56) dX3_endBlock_56 (by decide) ?_
        refine jJ_puti (pc := 57) dX3_endBlock_57 fX3_29w rfl ⟨rfl, rfl⟩ (by assumption) ?_
        try simp only [rdM_g1, rdM_g2, rdM_g3, rdM_g4, rdM_g5, rdM_g6, rdM_g7, rdM_g8, rdM_g9, rdM_g10, rdM_p1, rdM_p2, rdM_p3, rdM_p4, rdM_p5, rdM_p6, rdM_p7, rdM_p8, rdM_p9, rdM_p10, rdM_r, rdM_w, su_s, su_1_2, su_1_3, su_1_4, su_1_5, su_1_6, su_1_7, su_1_8, su_1_9, su_1_10, su_2_1, su_2_3, su_2_4, su_2_5, su_2_6, su_2_7, su_2_8, su_2_9, su_2_10, su_3_1, su_3_2, su_3_4, su_3_5, su_3_6, su_3_7, su_3_8, su_3_9, su_3_10, su_4_1, su_4_2, su_4_3, su_4_5, su_4_6, su_4_7, su_4_8, su_4_9, su_4_10, su_5_1, su_5_2, su_5_3, su_5_4, su_5_6, su_5_7, su_5_8, su_5_9, su_5_10, su_6_1, su_6_2, su_6_3, su_6_4, su_6_5, su_6_7, su_6_8, su_6_9, su_6_10, su_7_1, su_7_2, su_7_3, su_7_4, su_7_5, su_7_6, su_7_8, su_7_9, su_7_10, su_8_1, su_8_2, su_8_3, su_8_4, su_8_5, su_8_6, su_8_7, su_8_9, su_8_10, su_9_1, su_9_2, su_9_3, su_9_4, su_9_5, su_9_6, su_9_7, su_9_8, su_9_10, su_10_1, su_10_2, su_10_3, su_10_4, su_10_5, su_10_6, su_10_7, su_10_8, su_10_9]
        refine jJ_iconst (pc := 60) dX3_endBlock_60 (by decide) ?_
        refine jJ_zret (pc := 61) dX3_endBlock_61 rfl (by decide) ?_
        exact ⟨by first | rw [← jb_t (by omega)] | rw [← jb_f (by omega)], by unfold endBlS; (repeat' split) <;> first | rfl | (exfalso; omega), rfl⟩
      · refine jJ_iconst (pc := 52) dX3_endBlock_52 (by decide) ?_
        refine jJ_goto (pc := 53) (tgt := 57) dX3_endBlock_53 (by decide) ?_
        refine jJ_puti (pc := 57) dX3_endBlock_57 fX3_29w rfl ⟨rfl, rfl⟩ (by assumption) ?_
        try simp only [rdM_g1, rdM_g2, rdM_g3, rdM_g4, rdM_g5, rdM_g6, rdM_g7, rdM_g8, rdM_g9, rdM_g10, rdM_p1, rdM_p2, rdM_p3, rdM_p4, rdM_p5, rdM_p6, rdM_p7, rdM_p8, rdM_p9, rdM_p10, rdM_r, rdM_w, su_s, su_1_2, su_1_3, su_1_4, su_1_5, su_1_6, su_1_7, su_1_8, su_1_9, su_1_10, su_2_1, su_2_3, su_2_4, su_2_5, su_2_6, su_2_7, su_2_8, su_2_9, su_2_10, su_3_1, su_3_2, su_3_4, su_3_5, su_3_6, su_3_7, su_3_8, su_3_9, su_3_10, su_4_1, su_4_2, su_4_3, su_4_5, su_4_6, su_4_7, su_4_8, su_4_9, su_4_10, su_5_1, su_5_2, su_5_3, su_5_4, su_5_6, su_5_7, su_5_8, su_5_9, su_5_10, su_6_1, su_6_2, su_6_3, su_6_4, su_6_5, su_6_7, su_6_8, su_6_9, su_6_10, su_7_1, su_7_2, su_7_3, su_7_4, su_7_5, su_7_6, su_7_8, su_7_9, su_7_10, su_8_1, su_8_2, su_8_3, su_8_4, su_8_5, su_8_6, su_8_7, su_8_9, su_8_10, su_9_1, su_9_2, su_9_3, su_9_4, su_9_5, su_9_6, su_9_7, su_9_8, su_9_10, su_10_1, su_10_2, su_10_3, su_10_4, su_10_5, su_10_6, su_10_7, su_10_8, su_10_9]
        refine jJ_iconst (pc := 60) dX3_endBlock_60 (by decide) ?_
        refine jJ_zret (pc := 61) dX3_endBlock_61 rfl (by decide) ?_
        exact ⟨by first | rw [← jb_t (by omega)] | rw [← jb_f (by omega)], by unfold endBlS; (repeat' split) <;> first | rfl | (exfalso; omega), rfl⟩
  · refine jJ_iconst (pc := 10) dX3_endBlock_10 (by decide) ?_
    refine jJ_zret (pc := 11) dX3_endBlock_11 rfl (by decide) ?_
    exact ⟨by first | rw [← jb_t (by omega)] | rw [← jb_f (by omega)], by unfold endBlS; (repeat' split) <;> first | rfl | (exfalso; omega), rfl⟩
def stBlS (s : Nat → Int) : Nat → Int := pushS (su (su s 4 0) 2 (s 2 + 1))
def stBlR (s r : Nat → Int) (v : Int) : Nat → Int := pushR (su (su s 4 0) 2 (s 2 + 1)) r v
theorem c_Rd_startBlock {v : Int} (h : RdL E P rd op) (hs : 0 ≤ s 1 ∧ s 1 ≤ 6) (hs2 : -1000 ≤ s 2 ∧ s 2 ≤ 1000) (hd : 1 ≤ d) : jC E yX3_startBlock cX3_startBlock 2 (some .boolean) d [jp rd, ji v] (rdM I rd op s r) P (jD (some (ji 1)) (rdM I rd op (stBlS s) (stBlR s r v)) P) := by
  have h0 := h.1
  refine jC_intro (by decide +kernel) (by simp [jc, va_rf, Value.category]) (Nat.le_of_ble_eq_true rfl) ?_
  refine jJ_aload_n (pc := 0) dX3_startBlock_0 rfl ?_
  refine jJ_iconst (pc := 1) dX3_startBlock_1 (by decide) ?_
  refine jJ_puti (pc := 2) dX3_startBlock_2 fX3_29w rfl ⟨rfl, rfl⟩ (by assumption) ?_
  try simp only [rdM_g1, rdM_g2, rdM_g3, rdM_g4, rdM_g5, rdM_g6, rdM_g7, rdM_g8, rdM_g9, rdM_g10, rdM_p1, rdM_p2, rdM_p3, rdM_p4, rdM_p5, rdM_p6, rdM_p7, rdM_p8, rdM_p9, rdM_p10, rdM_r, rdM_w, su_s, su_1_2, su_1_3, su_1_4, su_1_5, su_1_6, su_1_7, su_1_8, su_1_9, su_1_10, su_2_1, su_2_3, su_2_4, su_2_5, su_2_6, su_2_7, su_2_8, su_2_9, su_2_10, su_3_1, su_3_2, su_3_4, su_3_5, su_3_6, su_3_7, su_3_8, su_3_9, su_3_10, su_4_1, su_4_2, su_4_3, su_4_5, su_4_6, su_4_7, su_4_8, su_4_9, su_4_10, su_5_1, su_5_2, su_5_3, su_5_4, su_5_6, su_5_7, su_5_8, su_5_9, su_5_10, su_6_1, su_6_2, su_6_3, su_6_4, su_6_5, su_6_7, su_6_8, su_6_9, su_6_10, su_7_1, su_7_2, su_7_3, su_7_4, su_7_5, su_7_6, su_7_8, su_7_9, su_7_10, su_8_1, su_8_2, su_8_3, su_8_4, su_8_5, su_8_6, su_8_7, su_8_9, su_8_10, su_9_1, su_9_2, su_9_3, su_9_4, su_9_5, su_9_6, su_9_7, su_9_8, su_9_10, su_10_1, su_10_2, su_10_3, su_10_4, su_10_5, su_10_6, su_10_7, su_10_8, su_10_9]
  refine jJ_aload_n (pc := 5) dX3_startBlock_5 rfl ?_
  refine jJ_dup (pc := 6) dX3_startBlock_6 rfl ?_
  refine jJ_geti (pc := 7) dX3_startBlock_7 fX3_22 rfl (by assumption) ?_
  try simp only [rdM_g1, rdM_g2, rdM_g3, rdM_g4, rdM_g5, rdM_g6, rdM_g7, rdM_g8, rdM_g9, rdM_g10, rdM_p1, rdM_p2, rdM_p3, rdM_p4, rdM_p5, rdM_p6, rdM_p7, rdM_p8, rdM_p9, rdM_p10, rdM_r, rdM_w, su_s, su_1_2, su_1_3, su_1_4, su_1_5, su_1_6, su_1_7, su_1_8, su_1_9, su_1_10, su_2_1, su_2_3, su_2_4, su_2_5, su_2_6, su_2_7, su_2_8, su_2_9, su_2_10, su_3_1, su_3_2, su_3_4, su_3_5, su_3_6, su_3_7, su_3_8, su_3_9, su_3_10, su_4_1, su_4_2, su_4_3, su_4_5, su_4_6, su_4_7, su_4_8, su_4_9, su_4_10, su_5_1, su_5_2, su_5_3, su_5_4, su_5_6, su_5_7, su_5_8, su_5_9, su_5_10, su_6_1, su_6_2, su_6_3, su_6_4, su_6_5, su_6_7, su_6_8, su_6_9, su_6_10, su_7_1, su_7_2, su_7_3, su_7_4, su_7_5, su_7_6, su_7_8, su_7_9, su_7_10, su_8_1, su_8_2, su_8_3, su_8_4, su_8_5, su_8_6, su_8_7, su_8_9, su_8_10, su_9_1, su_9_2, su_9_3, su_9_4, su_9_5, su_9_6, su_9_7, su_9_8, su_9_10, su_10_1, su_10_2, su_10_3, su_10_4, su_10_5, su_10_6, su_10_7, su_10_8, su_10_9]
  refine jJ_iconst (pc := 10) dX3_startBlock_10 (by decide) ?_
  refine jJ_iadd (pc := 11) dX3_startBlock_11 ⟨by omega, by omega⟩ ?_
  refine jJ_puti (pc := 12) dX3_startBlock_12 fX3_22w rfl ⟨rfl, rfl⟩ (by assumption) ?_
  try simp only [rdM_g1, rdM_g2, rdM_g3, rdM_g4, rdM_g5, rdM_g6, rdM_g7, rdM_g8, rdM_g9, rdM_g10, rdM_p1, rdM_p2, rdM_p3, rdM_p4, rdM_p5, rdM_p6, rdM_p7, rdM_p8, rdM_p9, rdM_p10, rdM_r, rdM_w, su_s, su_1_2, su_1_3, su_1_4, su_1_5, su_1_6, su_1_7, su_1_8, su_1_9, su_1_10, su_2_1, su_2_3, su_2_4, su_2_5, su_2_6, su_2_7, su_2_8, su_2_9, su_2_10, su_3_1, su_3_2, su_3_4, su_3_5, su_3_6, su_3_7, su_3_8, su_3_9, su_3_10, su_4_1, su_4_2, su_4_3, su_4_5, su_4_6, su_4_7, su_4_8, su_4_9, su_4_10, su_5_1, su_5_2, su_5_3, su_5_4, su_5_6, su_5_7, su_5_8, su_5_9, su_5_10, su_6_1, su_6_2, su_6_3, su_6_4, su_6_5, su_6_7, su_6_8, su_6_9, su_6_10, su_7_1, su_7_2, su_7_3, su_7_4, su_7_5, su_7_6, su_7_8, su_7_9, su_7_10, su_8_1, su_8_2, su_8_3, su_8_4, su_8_5, su_8_6, su_8_7, su_8_9, su_8_10, su_9_1, su_9_2, su_9_3, su_9_4, su_9_5, su_9_6, su_9_7, su_9_8, su_9_10, su_10_1, su_10_2, su_10_3, su_10_4, su_10_5, su_10_6, su_10_7, su_10_8, su_10_9]
  refine jJ_aload_n (pc := 15) dX3_startBlock_15 rfl ?_
  refine jJ_iload_n (pc := 16) dX3_startBlock_16 rfl ?_
  refine jJ_callVd (pc := 17) (as := [_]) dX3_startBlock_17 mX3_124 (jRcv_of (by assumption) rfl rfl) (Nat.le_of_ble_eq_true rfl) (jRm_ok (by omega) (by decide)) (c_Rd_push (d := d - 1) h hs) ?_
  try simp only [rdM_g1, rdM_g2, rdM_g3, rdM_g4, rdM_g5, rdM_g6, rdM_g7, rdM_g8, rdM_g9, rdM_g10, rdM_p1, rdM_p2, rdM_p3, rdM_p4, rdM_p5, rdM_p6, rdM_p7, rdM_p8, rdM_p9, rdM_p10, rdM_r, rdM_w, su_s, su_1_2, su_1_3, su_1_4, su_1_5, su_1_6, su_1_7, su_1_8, su_1_9, su_1_10, su_2_1, su_2_3, su_2_4, su_2_5, su_2_6, su_2_7, su_2_8, su_2_9, su_2_10, su_3_1, su_3_2, su_3_4, su_3_5, su_3_6, su_3_7, su_3_8, su_3_9, su_3_10, su_4_1, su_4_2, su_4_3, su_4_5, su_4_6, su_4_7, su_4_8, su_4_9, su_4_10, su_5_1, su_5_2, su_5_3, su_5_4, su_5_6, su_5_7, su_5_8, su_5_9, su_5_10, su_6_1, su_6_2, su_6_3, su_6_4, su_6_5, su_6_7, su_6_8, su_6_9, su_6_10, su_7_1, su_7_2, su_7_3, su_7_4, su_7_5, su_7_6, su_7_8, su_7_9, su_7_10, su_8_1, su_8_2, su_8_3, su_8_4, su_8_5, su_8_6, su_8_7, su_8_9, su_8_10, su_9_1, su_9_2, su_9_3, su_9_4, su_9_5, su_9_6, su_9_7, su_9_8, su_9_10, su_10_1, su_10_2, su_10_3, su_10_4, su_10_5, su_10_6, su_10_7, su_10_8, su_10_9]
  refine jJ_zret (pc := 20) dX3_startBlock_20 rfl (by decide) ?_
  exact ⟨rfl, rfl, rfl⟩
end JRd
