section JText
variable {E : jE} {I : jI} {P : jP} {d : Nat}
/-- how a TEXT's object lies: its bytes at q 0, its seven rows of numbers at q 1 to q 7 -/
def TxL (E : jE) (P : jP) (x : Nat) (q : Nat → Nat) : Prop := jK E 5 x ∧ (P x 0 = some (q 0) ∧ P x 1 = some (q 1) ∧ P x 2 = some (q 2) ∧ P x 3 = some (q 3) ∧ P x 4 = some (q 4) ∧ P x 5 = some (q 5) ∧ P x 6 = some (q 6) ∧ P x 7 = some (q 7)) ∧
  (jAr E 8 (q 0) 800 ∧ jAr E 9 (q 1) 200 ∧ jAr E 9 (q 2) 200 ∧ jAr E 9 (q 3) 200 ∧ jAr E 9 (q 4) 200 ∧ jAr E 9 (q 5) 200 ∧ jAr E 9 (q 6) 200 ∧ jAr E 9 (q 7) 200)
theorem jne {a b ka kb : Nat} (ha : eK E a = ka) (hb : eK E b = kb) (h : ka ≠ kb) : a ≠ b := fun e => h (by rw [← ha, ← hb, e])
/-- a byte of a text, or -1 -/
def tByte (n : Int) (f : Nat → Int) (p : Int) : Int := if 0 ≤ p ∧ p < n then f p.toNat else -1
theorem c_Text_byteAt {x : Nat} {q : Nat → Nat} {p : Int} (hx : TxL E P x q) (hl : I x 9 ≤ 800) : jC E yX5_byteAt cX5_byteAt 2 (some .int) d [jp x, ji p] I P (jD (some (ji (tByte (I x 9) (I (q 0)) p))) I P) := by
  obtain ⟨h0, ⟨p0, -⟩, ⟨a0, -⟩⟩ := hx
  refine jC_intro (by decide +kernel) (by simp [jc, va_rf, Value.category]) (Nat.le_of_ble_eq_true rfl) ?_
  refine jJ_iload_n (pc := 0) dX5_byteAt_0 rfl ?_
  refine jJ_if_lt (pc := 1) (tgt := 21) dX5_byteAt_1 (by decide) (fun c1 => ?_) (fun c1 => ?_)
  · refine jJ_iconst (pc := 21) dX5_byteAt_21 (by decide) ?_
    refine jJ_iret (pc := 22) dX5_byteAt_22 rfl ?_
    exact ⟨by unfold tByte; split <;> first | rfl | (exfalso; omega), rfl, rfl⟩
  · refine jJ_iload_n (pc := 4) dX5_byteAt_4 rfl ?_
    refine jJ_aload_n (pc := 5) dX5_byteAt_5 rfl ?_
    refine jJ_geti (pc := 6) dX5_byteAt_6 fX5_46 rfl (by assumption) ?_
    refine jJ_icmp_ge (pc := 9) (tgt := 21) dX5_byteAt_9 (by decide) (fun c9 => ?_) (fun c9 => ?_)
    · refine jJ_iconst (pc := 21) dX5_byteAt_21 (by decide) ?_
      refine jJ_iret (pc := 22) dX5_byteAt_22 rfl ?_
      exact ⟨by unfold tByte; split <;> first | rfl | (exfalso; omega), rfl, rfl⟩
    · refine jJ_aload_n (pc := 12) dX5_byteAt_12 rfl ?_
      refine jJ_getr (pc := 13) dX5_byteAt_13 fX5_9 rfl (by assumption) (by assumption) ?_
      refine jJ_iload_n (pc := 16) dX5_byteAt_16 rfl ?_
      refine jJ_bald (pc := 17) dX5_byteAt_17 (by assumption) ⟨by omega, by omega⟩ ?_
      refine jJ_goto (pc := 18) (tgt := 22) dX5_byteAt_18 (by decide) ?_
      refine jJ_iret (pc := 22) dX5_byteAt_22 rfl ?_
      exact ⟨by unfold tByte; split <;> first | rfl | (exfalso; omega), rfl, rfl⟩
theorem c_Text_isFull {x : Nat} {q : Nat → Nat} (hx : TxL E P x q) : jC E yX5_isFull cX5_isFull 1 (some .boolean) d [jp x] I P (jD (some (ji (jb (200 ≤ I x 11)))) I P) := by
  obtain ⟨h0, -⟩ := hx
  refine jC_intro (by decide +kernel) (by simp [jc, va_rf, Value.category]) (Nat.le_of_ble_eq_true rfl) ?_
  refine jJ_aload_n (pc := 0) dX5_isFull_0 rfl ?_
  refine jJ_geti (pc := 1) dX5_isFull_1 fX5_59 rfl (by assumption) ?_
  refine jJ_sipush (pc := 4) dX5_isFull_4 (by decide) ?_
  refine jJ_icmp_lt (pc := 7) (tgt := 14) dX5_isFull_7 (by decide) (fun c7 => ?_) (fun c7 => ?_)
  · refine jJ_iconst (pc := 14) dX5_isFull_14 (by decide) ?_
    refine jJ_zret (pc := 15) dX5_isFull_15 rfl (by decide) ?_
    exact ⟨by first | rw [← jb_t (by omega)] | rw [← jb_f (by omega)], rfl, rfl⟩
  · refine jJ_iconst (pc := 10) dX5_isFull_10 (by decide) ?_
    refine jJ_goto (pc := 11) (tgt := 15) dX5_isFull_11 (by decide) ?_
    refine jJ_zret (pc := 15) dX5_isFull_15 rfl (by decide) ?_
    exact ⟨by first | rw [← jb_t (by omega)] | rw [← jb_f (by omega)], rfl, rfl⟩
theorem c_Text_gapCount {x : Nat} {q : Nat → Nat} (hx : TxL E P x q) : jC E yX5_gapCount cX5_gapCount 1 (some .int) d [jp x] I P (jD (some (ji (if 0 < I x 11 then I x 11 - 1 else 0))) I P) := by
  obtain ⟨h0, -⟩ := hx
  refine jC_intro (by decide +kernel) (by simp [jc, va_rf, Value.category]) (Nat.le_of_ble_eq_true rfl) ?_
  refine jJ_rI (fun hRI => ?_)
  have hr := hRI x 11
  refine jJ_aload_n (pc := 0) dX5_gapCount_0 rfl ?_
  refine jJ_geti (pc := 1) dX5_gapCount_1 fX5_59 rfl (by assumption) ?_
  refine jJ_if_le (pc := 4) (tgt := 16) dX5_gapCount_4 (by decide) (fun c4 => ?_) (fun c4 => ?_)
  · refine jJ_iconst (pc := 16) dX5_gapCount_16 (by decide) ?_
    refine jJ_iret (pc := 17) dX5_gapCount_17 rfl ?_
    exact ⟨by split <;> first | rfl | (exfalso; omega), rfl, rfl⟩
  · refine jJ_aload_n (pc := 7) dX5_gapCount_7 rfl ?_
    refine jJ_geti (pc := 8) dX5_gapCount_8 fX5_59 rfl (by assumption) ?_
    refine jJ_iconst (pc := 11) dX5_gapCount_11 (by decide) ?_
    refine jJ_isub (pc := 12) dX5_gapCount_12 ⟨by omega, by omega⟩ ?_
    refine jJ_goto (pc := 13) (tgt := 17) dX5_gapCount_13 (by decide) ?_
    refine jJ_iret (pc := 17) dX5_gapCount_17 rfl ?_
    exact ⟨by split <;> first | rfl | (exfalso; omega), rfl, rfl⟩
def isOp (b : Int) : Prop := b = 43 ∨ b = 45 ∨ b = 60
def kindS (f s : Int) : Int := if s = 44 then 6 else if f = 44 then 7 else if f = 40 then 8 else if s = 41 then 9 else if s = 40 then 10 else if s = 61 then 11 else if f = 61 then 12 else if s = 43 ∨ s = 45 ∨ s = 60 then 13 else if f = 43 ∨ f = 45 ∨ f = 60 then 14 else 15
def kindB (f s : Int) : Int := if s = 59 then 0 else if f = 59 then 1 else if f = 123 then 2 else if s = 125 then 3 else if f = 125 then 4 else if s = 123 then 5 else kindS f s
theorem c_Text_kindInStatement {f s : Int} (hd : 1 ≤ d) : jC E yX5_kindInStatement cX5_kindInStatement 2 (some .int) d [ji f, ji s] I P (jD (some (ji (kindS f s))) I P) := by
  refine jC_intro (by decide +kernel) (by simp [jc, va_rf, Value.category]) (Nat.le_of_ble_eq_true rfl) ?_
  refine jJ_iload_n (pc := 0) dX5_kindInStatement_0 rfl ?_
  refine jJ_bipush (pc := 1) dX5_kindInStatement_1 (by decide) ?_
  refine jJ_icmp_ne (pc := 3) (tgt := 9) dX5_kindInStatement_3 (by decide) (fun c3 => ?_) (fun c3 => ?_)
  · try simp only [jb_z, jb_nz] at c3
    refine jJ_iload_n (pc := 9) dX5_kindInStatement_9 rfl ?_
    refine jJ_bipush (pc := 10) dX5_kindInStatement_10 (by decide) ?_
    refine jJ_icmp_ne (pc := 12) (tgt := 18) dX5_kindInStatement_12 (by decide) (fun c12 => ?_) (fun c12 => ?_)
    · try simp only [jb_z, jb_nz] at c12
      refine jJ_iload_n (pc := 18) dX5_kindInStatement_18 rfl ?_
      refine jJ_bipush (pc := 19) dX5_kindInStatement_19 (by decide) ?_
      refine jJ_icmp_ne (pc := 21) (tgt := 27) dX5_kindInStatement_21 (by decide) (fun c21 => ?_) (fun c21 => ?_)
      · try simp only [jb_z, jb_nz] at c21
        refine jJ_iload_n (pc := 27) dX5_kindInStatement_27 rfl ?_
        refine jJ_bipush (pc := 28) dX5_kindInStatement_28 (by decide) ?_
        refine jJ_icmp_ne (pc := 30) (tgt := 36) dX5_kindInStatement_30 (by decide) (fun c30 => ?_) (fun c30 => ?_)
        · try simp only [jb_z, jb_nz] at c30
          refine jJ_iload_n (pc := 36) dX5_kindInStatement_36 rfl ?_
          refine jJ_bipush (pc := 37) dX5_kindInStatement_37 (by decide) ?_
          refine jJ_icmp_ne (pc := 39) (tgt := 45) dX5_kindInStatement_39 (by decide) (fun c39 => ?_) (fun c39 => ?_)
          · try simp only [jb_z, jb_nz] at c39
            refine jJ_iload_n (pc := 45) dX5_kindInStatement_45 rfl ?_
            refine jJ_bipush (pc := 46) dX5_kindInStatement_46 (by decide) ?_
            refine jJ_icmp_ne (pc := 48) (tgt := 54) dX5_kindInStatement_48 (by decide) (fun c48 => ?_) (fun c48 => ?_)
            · try simp only [jb_z, jb_nz] at c48
              refine jJ_iload_n (pc := 54) dX5_kindInStatement_54 rfl ?_
              refine jJ_bipush (pc := 55) dX5_kindInStatement_55 (by decide) ?_
              refine jJ_icmp_ne (pc := 57) (tgt := 63) dX5_kindInStatement_57 (by decide) (fun c57 => ?_) (fun c57 => ?_)
              · try simp only [jb_z, jb_nz] at c57
                refine jJ_iload_n (pc := 63) dX5_kindInStatement_63 rfl ?_
                refine jJ_callSd (pc := 64) (as := [_]) dX5_kindInStatement_64 mX5_72 (Nat.le_of_ble_eq_true rfl) (jRm_ok (by omega) (by decide)) (c_isOperator (d := d - 1)) ?_
                refine jJ_if_eq (pc := 67) (tgt := 73) dX5_kindInStatement_67 (by decide) (fun c67 => ?_) (fun c67 => ?_)
                · try simp only [jb_z, jb_nz] at c67
                  refine jJ_iload_n (pc := 73) dX5_kindInStatement_73 rfl ?_
                  refine jJ_callSd (pc := 74) (as := [_]) dX5_kindInStatement_74 mX5_72 (Nat.le_of_ble_eq_true rfl) (jRm_ok (by omega) (by decide)) (c_isOperator (d := d - 1)) ?_
                  refine jJ_if_eq (pc := 77) (tgt := 85) dX5_kindInStatement_77 (by decide) (fun c77 => ?_) (fun c77 => ?_)
                  · try simp only [jb_z, jb_nz] at c77
                    refine jJ_bipush (pc := 85) dX5_kindInStatement_85 (by decide) ?_
                    refine jJ_iret (pc := 87) dX5_kindInStatement_87 rfl ?_
                    exact ⟨by unfold kindS; simp only [*, if_true, if_false, ne_eq, not_false_eq_true]; try rfl, rfl, rfl⟩
                  · try simp only [jb_z, jb_nz] at c77
                    refine jJ_bipush (pc := 80) dX5_kindInStatement_80 (by decide) ?_
                    refine jJ_goto (pc := 82) (tgt := 87) dX5_kindInStatement_82 (by decide) ?_
                    refine jJ_iret (pc := 87) dX5_kindInStatement_87 rfl ?_
                    exact ⟨by unfold kindS; simp only [*, if_true, if_false, ne_eq, not_false_eq_true]; try rfl, rfl, rfl⟩
                · try simp only [jb_z, jb_nz] at c67
                  refine jJ_bipush (pc := 70) dX5_kindInStatement_70 (by decide) ?_
                  refine jJ_iret (pc := 72) dX5_kindInStatement_72 rfl ?_
                  exact ⟨by unfold kindS; simp only [*, if_true, if_false, ne_eq, not_false_eq_true]; try rfl, rfl, rfl⟩
              · try simp only [jb_z, jb_nz] at c57
                refine jJ_bipush (pc := 60) dX5_kindInStatement_60 (by decide) ?_
                refine jJ_iret (pc := 62) dX5_kindInStatement_62 rfl ?_
                exact ⟨by unfold kindS; simp only [*, if_true, if_false, ne_eq, not_false_eq_true]; try rfl, rfl, rfl⟩
            · try simp only [jb_z, jb_nz] at c48
              refine jJ_bipush (pc := 51) dX5_kindInStatement_51 (by decide) ?_
              refine jJ_iret (pc := 53) dX5_kindInStatement_53 rfl ?_
              exact ⟨by unfold kindS; simp only [*, if_true, if_false, ne_eq, not_false_eq_true]; try rfl, rfl, rfl⟩
          · try simp only [jb_z, jb_nz] at c39
            refine jJ_bipush (pc := 42) dX5_kindInStatement_42 (by decide) ?_
            refine jJ_iret (pc := 44) dX5_kindInStatement_44 rfl ?_
            exact ⟨by unfold kindS; simp only [*, if_true, if_false, ne_eq, not_false_eq_true]; try rfl, rfl, rfl⟩
        · try simp only [jb_z, jb_nz] at c30
          refine jJ_bipush (pc := 33) dX5_kindInStatement_33 (by decide) ?_
          refine jJ_iret (pc := 35) dX5_kindInStatement_35 rfl ?_
          exact ⟨by unfold kindS; simp only [*, if_true, if_false, ne_eq, not_false_eq_true]; try rfl, rfl, rfl⟩
      · try simp only [jb_z, jb_nz] at c21
        refine jJ_bipush (pc := 24) dX5_kindInStatement_24 (by decide) ?_
        refine jJ_iret (pc := 26) dX5_kindInStatement_26 rfl ?_
        exact ⟨by unfold kindS; simp only [*, if_true, if_false, ne_eq, not_false_eq_true]; try rfl, rfl, rfl⟩
    · try simp only [jb_z, jb_nz] at c12
      refine jJ_bipush (pc := 15) dX5_kindInStatement_15 (by decide) ?_
      refine jJ_iret (pc := 17) dX5_kindInStatement_17 rfl ?_
      exact ⟨by unfold kindS; simp only [*, if_true, if_false, ne_eq, not_false_eq_true]; try rfl, rfl, rfl⟩
  · try simp only [jb_z, jb_nz] at c3
    refine jJ_bipush (pc := 6) dX5_kindInStatement_6 (by decide) ?_
    refine jJ_iret (pc := 8) dX5_kindInStatement_8 rfl ?_
    exact ⟨by unfold kindS; simp only [*, if_true, if_false, ne_eq, not_false_eq_true]; try rfl, rfl, rfl⟩
theorem c_Text_kindBetween {f s : Int} (hd : 2 ≤ d) : jC E yX5_kindBetween cX5_kindBetween 2 (some .int) d [ji f, ji s] I P (jD (some (ji (kindB f s))) I P) := by
  refine jC_intro (by decide +kernel) (by simp [jc, va_rf, Value.category]) (Nat.le_of_ble_eq_true rfl) ?_
  refine jJ_iload_n (pc := 0) dX5_kindBetween_0 rfl ?_
  refine jJ_bipush (pc := 1) dX5_kindBetween_1 (by decide) ?_
  refine jJ_icmp_ne (pc := 3) (tgt := 8) dX5_kindBetween_3 (by decide) (fun c3 => ?_) (fun c3 => ?_)
  · refine jJ_iload_n (pc := 8) dX5_kindBetween_8 rfl ?_
    refine jJ_bipush (pc := 9) dX5_kindBetween_9 (by decide) ?_
    refine jJ_icmp_ne (pc := 11) (tgt := 16) dX5_kindBetween_11 (by decide) (fun c11 => ?_) (fun c11 => ?_)
    · refine jJ_iload_n (pc := 16) dX5_kindBetween_16 rfl ?_
      refine jJ_bipush (pc := 17) dX5_kindBetween_17 (by decide) ?_
      refine jJ_icmp_ne (pc := 19) (tgt := 24) dX5_kindBetween_19 (by decide) (fun c19 => ?_) (fun c19 => ?_)
      · refine jJ_iload_n (pc := 24) dX5_kindBetween_24 rfl ?_
        refine jJ_bipush (pc := 25) dX5_kindBetween_25 (by decide) ?_
        refine jJ_icmp_ne (pc := 27) (tgt := 32) dX5_kindBetween_27 (by decide) (fun c27 => ?_) (fun c27 => ?_)
        · refine jJ_iload_n (pc := 32) dX5_kindBetween_32 rfl ?_
          refine jJ_bipush (pc := 33) dX5_kindBetween_33 (by decide) ?_
          refine jJ_icmp_ne (pc := 35) (tgt := 40) dX5_kindBetween_35 (by decide) (fun c35 => ?_) (fun c35 => ?_)
          · refine jJ_iload_n (pc := 40) dX5_kindBetween_40 rfl ?_
            refine jJ_bipush (pc := 41) dX5_kindBetween_41 (by decide) ?_
            refine jJ_icmp_ne (pc := 43) (tgt := 48) dX5_kindBetween_43 (by decide) (fun c43 => ?_) (fun c43 => ?_)
            · refine jJ_iload_n (pc := 48) dX5_kindBetween_48 rfl ?_
              refine jJ_iload_n (pc := 49) dX5_kindBetween_49 rfl ?_
              refine jJ_callSd (pc := 50) (as := [_, _]) dX5_kindBetween_50 mX5_69 (Nat.le_of_ble_eq_true rfl) (jRm_ok (by omega) (by decide)) (c_Text_kindInStatement (d := d - 1) (by omega)) ?_
              refine jJ_iret (pc := 53) dX5_kindBetween_53 rfl ?_
              exact ⟨by unfold kindB; simp only [*, if_true, if_false, ne_eq, not_false_eq_true]; try rfl, rfl, rfl⟩
            · refine jJ_iconst (pc := 46) dX5_kindBetween_46 (by decide) ?_
              refine jJ_iret (pc := 47) dX5_kindBetween_47 rfl ?_
              exact ⟨by unfold kindB; simp only [*, if_true, if_false, ne_eq, not_false_eq_true]; try rfl, rfl, rfl⟩
          · refine jJ_iconst (pc := 38) dX5_kindBetween_38 (by decide) ?_
            refine jJ_iret (pc := 39) dX5_kindBetween_39 rfl ?_
            exact ⟨by unfold kindB; simp only [*, if_true, if_false, ne_eq, not_false_eq_true]; try rfl, rfl, rfl⟩
        · refine jJ_iconst (pc := 30) dX5_kindBetween_30 (by decide) ?_
          refine jJ_iret (pc := 31) dX5_kindBetween_31 rfl ?_
          exact ⟨by unfold kindB; simp only [*, if_true, if_false, ne_eq, not_false_eq_true]; try rfl, rfl, rfl⟩
      · refine jJ_iconst (pc := 22) dX5_kindBetween_22 (by decide) ?_
        refine jJ_iret (pc := 23) dX5_kindBetween_23 rfl ?_
        exact ⟨by unfold kindB; simp only [*, if_true, if_false, ne_eq, not_false_eq_true]; try rfl, rfl, rfl⟩
    · refine jJ_iconst (pc := 14) dX5_kindBetween_14 (by decide) ?_
      refine jJ_iret (pc := 15) dX5_kindBetween_15 rfl ?_
      exact ⟨by unfold kindB; simp only [*, if_true, if_false, ne_eq, not_false_eq_true]; try rfl, rfl, rfl⟩
  · refine jJ_iconst (pc := 6) dX5_kindBetween_6 (by decide) ?_
    refine jJ_iret (pc := 7) dX5_kindBetween_7 rfl ?_
    exact ⟨by unfold kindB; simp only [*, if_true, if_false, ne_eq, not_false_eq_true]; try rfl, rfl, rfl⟩
/-- k places from p on hold v -/
def allP (f : Int → Int) (v : Int) : Int → Nat → Bool
  | _, 0 => true
  | p, k + 1 => if f p = v then allP f v (p + 1) k else false
theorem allP_t {f : Int → Int} {v p : Int} {k : Nat} (h : f p = v) : allP f v p (k + 1) = allP f v (p + 1) k := by simp [allP, h]
theorem allP_f {f : Int → Int} {v p : Int} {k : Nat} (h : f p ≠ v) : allP f v p (k + 1) = false := by simp [allP, h]
def chB (f : Int → Int) (e s dp : Int) : Int := if s - e = 0 then 0 else if s - e = 1 ∧ f e = 32 then 1 else if s - e ≠ 1 + 2 * dp ∨ f e ≠ 10 then 3 else if allP f 32 (e + 1) (s - (e + 1)).toNat = true then 2 else 3
theorem choice_loop {x : Nat} {q : Nat → Nat} {e s dp wd : Int} (hx : TxL E P x q) (hl : I x 9 ≤ 800) (hs : s ≤ 100000) (hd : 1 ≤ d) :
    ∀ (k : Nat) (p : Int), -100000 ≤ p → k = (s - p).toNat → jJ E yX5_choiceBetween.cls cX5_choiceBetween 6 (some .int) (jRm d) (jZ E (jD (some (ji (if allP (tByte (I x 9) (I (q 0))) 32 p k = true then 2 else 3))) I P)) 0 0 57 [some (jp x), some (ji e), some (ji s), some (ji dp), some (ji wd), some (ji p)] [] I P := by
  intro k
  induction k with
  | zero =>
    intro p hp hk
    refine jJ_iload (pc := 57) dX5_choiceBetween_57 rfl ?_
    refine jJ_iload_n (pc := 59) dX5_choiceBetween_59 rfl ?_
    refine jJ_icmp_ge (pc := 60) (tgt := 82) dX5_choiceBetween_60 (by decide) (fun c60 => ?_) (fun c60 => ?_)
    · refine jJ_iconst (pc := 82) dX5_choiceBetween_82 (by decide) ?_
      refine jJ_iret (pc := 83) dX5_choiceBetween_83 rfl ?_
      exact ⟨rfl, rfl, rfl⟩
    · exfalso
      omega
  | succ k ih =>
    intro p hp hk
    refine jJ_iload (pc := 57) dX5_choiceBetween_57 rfl ?_
    refine jJ_iload_n (pc := 59) dX5_choiceBetween_59 rfl ?_
    refine jJ_icmp_ge (pc := 60) (tgt := 82) dX5_choiceBetween_60 (by decide) (fun c60 => ?_) (fun c60 => ?_)
    · exfalso
      omega
    · refine jJ_aload_n (pc := 63) dX5_choiceBetween_63 rfl ?_
      refine jJ_iload (pc := 64) dX5_choiceBetween_64 rfl ?_
      refine jJ_callVd (pc := 66) (as := [_]) dX5_choiceBetween_66 mX5_76 (jRcv_of hx.1 rfl rfl) (Nat.le_of_ble_eq_true rfl) (jRm_ok (by omega) (by decide)) (c_Text_byteAt (d := d - 1) hx hl) ?_
      refine jJ_bipush (pc := 69) dX5_choiceBetween_69 (by decide) ?_
      refine jJ_icmp_eq (pc := 71) (tgt := 76) dX5_choiceBetween_71 (by decide) (fun c71 => ?_) (fun c71 => ?_)
      · refine jJ_iinc (pc := 76) (ls' := [_, _, _, _, _, _]) dX5_choiceBetween_76 rfl ⟨by omega, by omega⟩ rfl ?_
        refine jJ_goto (pc := 79) (tgt := 57) dX5_choiceBetween_79 (by decide) ?_
        rw [allP_t c71]
        exact ih (p + 1) (by omega) (by omega)
      · refine jJ_iconst (pc := 74) dX5_choiceBetween_74 (by decide) ?_
        refine jJ_iret (pc := 75) dX5_choiceBetween_75 rfl ?_
        exact ⟨by rw [allP_f c71]; rfl, rfl, rfl⟩
theorem c_Text_choiceBetween {x : Nat} {q : Nat → Nat} {e s dp : Int} (hx : TxL E P x q) (hl : I x 9 ≤ 800) (he : -1000 ≤ e ∧ e ≤ 100000) (hs : -1000 ≤ s ∧ s ≤ 100000) (hdp : -1000 ≤ dp ∧ dp ≤ 1000) (hd : 1 ≤ d) : jC E yX5_choiceBetween cX5_choiceBetween 6 (some .int) d [jp x, ji e, ji s, ji dp] I P (jD (some (ji (chB (tByte (I x 9) (I (q 0))) e s dp))) I P) := by
  have h0 := hx.1
  refine jC_intro (by decide +kernel) (by simp [jc, va_rf, Value.category]) (Nat.le_of_ble_eq_true rfl) ?_
  refine jJ_iload_n (pc := 0) dX5_choiceBetween_0 rfl ?_
  refine jJ_iload_n (pc := 1) dX5_choiceBetween_1 rfl ?_
  refine jJ_isub (pc := 2) dX5_choiceBetween_2 ⟨by omega, by omega⟩ ?_
  refine jJ_istore (pc := 3) (ls' := [_, _, _, _, _, _]) dX5_choiceBetween_3 (Nat.le_of_ble_eq_true rfl) rfl ?_
  refine jJ_iload (pc := 5) dX5_choiceBetween_5 rfl ?_
  refine jJ_if_ne (pc := 7) (tgt := 12) dX5_choiceBetween_7 (by decide) (fun c7 => ?_) (fun c7 => ?_)
  · refine jJ_iload (pc := 12) dX5_choiceBetween_12 rfl ?_
    refine jJ_iconst (pc := 14) dX5_choiceBetween_14 (by decide) ?_
    refine jJ_icmp_ne (pc := 15) (tgt := 30) dX5_choiceBetween_15 (by decide) (fun c15 => ?_) (fun c15 => ?_)
    · refine jJ_iload (pc := 30) dX5_choiceBetween_30 rfl ?_
      refine jJ_iconst (pc := 32) dX5_choiceBetween_32 (by decide) ?_
      refine jJ_iconst (pc := 33) dX5_choiceBetween_33 (by decide) ?_
      refine jJ_iload_n (pc := 34) dX5_choiceBetween_34 rfl ?_
      refine jJ_imul (pc := 35) dX5_choiceBetween_35 ⟨by omega, by omega⟩ ?_
      refine jJ_iadd (pc := 36) dX5_choiceBetween_36 ⟨by omega, by omega⟩ ?_
      refine jJ_icmp_ne (pc := 37) (tgt := 50) dX5_choiceBetween_37 (by decide) (fun c37 => ?_) (fun c37 => ?_)
      · refine jJ_iconst (pc := 50) dX5_choiceBetween_50 (by decide) ?_
        refine jJ_iret (pc := 51) dX5_choiceBetween_51 rfl ?_
        exact ⟨by unfold chB; (repeat' split) <;> first | rfl | (exfalso; omega), rfl, rfl⟩
      · refine jJ_aload_n (pc := 40) dX5_choiceBetween_40 rfl ?_
        refine jJ_iload_n (pc := 41) dX5_choiceBetween_41 rfl ?_
        refine jJ_callVd (pc := 42) (as := [_]) dX5_choiceBetween_42 mX5_76 (jRcv_of (by assumption) rfl rfl) (Nat.le_of_ble_eq_true rfl) (jRm_ok (by omega) (by decide)) (c_Text_byteAt (d := d - 1) hx hl) ?_
        refine jJ_bipush (pc := 45) dX5_choiceBetween_45 (by decide) ?_
        refine jJ_icmp_eq (pc := 47) (tgt := 52) dX5_choiceBetween_47 (by decide) (fun c47 => ?_) (fun c47 => ?_)
        · refine jJ_iload_n (pc := 52) dX5_choiceBetween_52 rfl ?_
          refine jJ_iconst (pc := 53) dX5_choiceBetween_53 (by decide) ?_
          refine jJ_iadd (pc := 54) dX5_choiceBetween_54 ⟨by omega, by omega⟩ ?_
          refine jJ_istore (pc := 55) (ls' := [_, _, _, _, _, _]) dX5_choiceBetween_55 (Nat.le_of_ble_eq_true rfl) rfl ?_
          refine jJ_of_eq (choice_loop hx hl (by omega) hd _ (e + 1) (by omega) rfl) ?_
          rw [show chB (tByte (I x 9) (I (q 0))) e s dp = (if allP (tByte (I x 9) (I (q 0))) 32 (e + 1) (s - (e + 1)).toNat = true then 2 else 3) by unfold chB; rw [if_neg (by omega), if_neg (by omega), if_neg (by omega)]]
        · refine jJ_iconst (pc := 50) dX5_choiceBetween_50 (by decide) ?_
          refine jJ_iret (pc := 51) dX5_choiceBetween_51 rfl ?_
          exact ⟨by unfold chB; (repeat' split) <;> first | rfl | (exfalso; omega), rfl, rfl⟩
    · refine jJ_aload_n (pc := 18) dX5_choiceBetween_18 rfl ?_
      refine jJ_iload_n (pc := 19) dX5_choiceBetween_19 rfl ?_
      refine jJ_callVd (pc := 20) (as := [_]) dX5_choiceBetween_20 mX5_76 (jRcv_of (by assumption) rfl rfl) (Nat.le_of_ble_eq_true rfl) (jRm_ok (by omega) (by decide)) (c_Text_byteAt (d := d - 1) hx hl) ?_
      refine jJ_bipush (pc := 23) dX5_choiceBetween_23 (by decide) ?_
      refine jJ_icmp_ne (pc := 25) (tgt := 30) dX5_choiceBetween_25 (by decide) (fun c25 => ?_) (fun c25 => ?_)
      · refine jJ_iload (pc := 30) dX5_choiceBetween_30 rfl ?_
        refine jJ_iconst (pc := 32) dX5_choiceBetween_32 (by decide) ?_
        refine jJ_iconst (pc := 33) dX5_choiceBetween_33 (by decide) ?_
        refine jJ_iload_n (pc := 34) dX5_choiceBetween_34 rfl ?_
        refine jJ_imul (pc := 35) dX5_choiceBetween_35 ⟨by omega, by omega⟩ ?_
        refine jJ_iadd (pc := 36) dX5_choiceBetween_36 ⟨by omega, by omega⟩ ?_
        refine jJ_icmp_ne (pc := 37) (tgt := 50) dX5_choiceBetween_37 (by decide) (fun c37 => ?_) (fun c37 => ?_)
        · refine jJ_iconst (pc := 50) dX5_choiceBetween_50 (by decide) ?_
          refine jJ_iret (pc := 51) dX5_choiceBetween_51 rfl ?_
          exact ⟨by unfold chB; (repeat' split) <;> first | rfl | (exfalso; omega), rfl, rfl⟩
        · refine jJ_aload_n (pc := 40) dX5_choiceBetween_40 rfl ?_
          refine jJ_iload_n (pc := 41) dX5_choiceBetween_41 rfl ?_
          refine jJ_callVd (pc := 42) (as := [_]) dX5_choiceBetween_42 mX5_76 (jRcv_of (by assumption) rfl rfl) (Nat.le_of_ble_eq_true rfl) (jRm_ok (by omega) (by decide)) (c_Text_byteAt (d := d - 1) hx hl) ?_
          refine jJ_bipush (pc := 45) dX5_choiceBetween_45 (by decide) ?_
          refine jJ_icmp_eq (pc := 47) (tgt := 52) dX5_choiceBetween_47 (by decide) (fun c47 => ?_) (fun c47 => ?_)
          · refine jJ_iload_n (pc := 52) dX5_choiceBetween_52 rfl ?_
            refine jJ_iconst (pc := 53) dX5_choiceBetween_53 (by decide) ?_
            refine jJ_iadd (pc := 54) dX5_choiceBetween_54 ⟨by omega, by omega⟩ ?_
            refine jJ_istore (pc := 55) (ls' := [_, _, _, _, _, _]) dX5_choiceBetween_55 (Nat.le_of_ble_eq_true rfl) rfl ?_
            refine jJ_of_eq (choice_loop hx hl (by omega) hd _ (e + 1) (by omega) rfl) ?_
            rw [show chB (tByte (I x 9) (I (q 0))) e s dp = (if allP (tByte (I x 9) (I (q 0))) 32 (e + 1) (s - (e + 1)).toNat = true then 2 else 3) by unfold chB; rw [if_neg (by omega), if_neg (by omega), if_neg (by omega)]]
          · refine jJ_iconst (pc := 50) dX5_choiceBetween_50 (by decide) ?_
            refine jJ_iret (pc := 51) dX5_choiceBetween_51 rfl ?_
            exact ⟨by unfold chB; (repeat' split) <;> first | rfl | (exfalso; omega), rfl, rfl⟩
      · refine jJ_iconst (pc := 28) dX5_choiceBetween_28 (by decide) ?_
        refine jJ_iret (pc := 29) dX5_choiceBetween_29 rfl ?_
        exact ⟨by unfold chB; (repeat' split) <;> first | rfl | (exfalso; omega), rfl, rfl⟩
  · refine jJ_iconst (pc := 10) dX5_choiceBetween_10 (by decide) ?_
    refine jJ_iret (pc := 11) dX5_choiceBetween_11 rfl ?_
    exact ⟨by unfold chB; (repeat' split) <;> first | rfl | (exfalso; omega), rfl, rfl⟩
/-! what is kept of a TOKEN, and what is seen at the GAPS -/
def tokM (I : jI) (x : Nat) (q : Nat → Nat) (s e g dp ow : Int) : jI := jput (jput (jput (jput (jput (jput I (q 1) (I x 11).toNat s) (q 2) (I x 11).toNat e) (q 3) (I x 11).toNat g) (q 4) (I x 11).toNat dp) (q 5) (I x 11).toNat ow) x 11 (I x 11 + 1)
theorem c_Text_addToken {x : Nat} {q : Nat → Nat} {s e g dp ow : Int} (hx : TxL E P x q) (hc : 0 ≤ I x 11 ∧ I x 11 < 200) : jC E yX5_addToken cX5_addToken 6 none d [jp x, ji s, ji e, ji g, ji dp, ji ow] I P (jD none (tokM I x q s e g dp ow) P) := by
  obtain ⟨h0, ⟨p0, p1, p2, p3, p4, p5, p6, p7⟩, ⟨a0, a1, a2, a3, a4, a5, a6, a7⟩⟩ := hx
  have n1 : x ≠ q 1 := jne h0.2 a1.2.1 (by decide)
  have n2 : x ≠ q 2 := jne h0.2 a2.2.1 (by decide)
  have n3 : x ≠ q 3 := jne h0.2 a3.2.1 (by decide)
  have n4 : x ≠ q 4 := jne h0.2 a4.2.1 (by decide)
  have n5 : x ≠ q 5 := jne h0.2 a5.2.1 (by decide)
  refine jC_intro (by decide +kernel) (by simp [jc, va_rf, Value.category]) (Nat.le_of_ble_eq_true rfl) ?_
  refine jJ_aload_n (pc := 0) dX5_addToken_0 rfl ?_
  refine jJ_geti (pc := 1) dX5_addToken_1 fX5_59 rfl (by assumption) ?_
  refine jJ_sipush (pc := 4) dX5_addToken_4 (by decide) ?_
  refine jJ_icmp_ge (pc := 7) (tgt := 72) dX5_addToken_7 (by decide) (fun c7 => ?_) (fun c7 => ?_)
  · exfalso
    omega
  · refine jJ_aload_n (pc := 10) dX5_addToken_10 rfl ?_
    refine jJ_getr (pc := 11) dX5_addToken_11 fX5_15 rfl (by assumption) (by assumption) ?_
    refine jJ_aload_n (pc := 14) dX5_addToken_14 rfl ?_
    refine jJ_geti (pc := 15) dX5_addToken_15 fX5_59 rfl (by assumption) ?_
    refine jJ_iload_n (pc := 18) dX5_addToken_18 rfl ?_
    refine jJ_iast (pc := 19) dX5_addToken_19 a1 ⟨by omega, by omega⟩ ?_
    refine jJ_aload_n (pc := 20) dX5_addToken_20 rfl ?_
    refine jJ_getr (pc := 21) dX5_addToken_21 fX5_19 rfl (by assumption) (by assumption) ?_
    refine jJ_aload_n (pc := 24) dX5_addToken_24 rfl ?_
    refine jJ_geti (pc := 25) dX5_addToken_25 fX5_59 rfl (by assumption) ?_
    rw [jput_a _ n1]
    refine jJ_iload_n (pc := 28) dX5_addToken_28 rfl ?_
    refine jJ_iast (pc := 29) dX5_addToken_29 a2 ⟨by omega, by omega⟩ ?_
    refine jJ_aload_n (pc := 30) dX5_addToken_30 rfl ?_
    refine jJ_getr (pc := 31) dX5_addToken_31 fX5_22 rfl (by assumption) (by assumption) ?_
    refine jJ_aload_n (pc := 34) dX5_addToken_34 rfl ?_
    refine jJ_geti (pc := 35) dX5_addToken_35 fX5_59 rfl (by assumption) ?_
    simp only [jput_a _ n1, jput_a _ n2]
    refine jJ_iload_n (pc := 38) dX5_addToken_38 rfl ?_
    refine jJ_iast (pc := 39) dX5_addToken_39 a3 ⟨by omega, by omega⟩ ?_
    refine jJ_aload_n (pc := 40) dX5_addToken_40 rfl ?_
    refine jJ_getr (pc := 41) dX5_addToken_41 fX5_25 rfl (by assumption) (by assumption) ?_
    refine jJ_aload_n (pc := 44) dX5_addToken_44 rfl ?_
    refine jJ_geti (pc := 45) dX5_addToken_45 fX5_59 rfl (by assumption) ?_
    simp only [jput_a _ n1, jput_a _ n2, jput_a _ n3]
    refine jJ_iload (pc := 48) dX5_addToken_48 rfl ?_
    refine jJ_iast (pc := 50) dX5_addToken_50 a4 ⟨by omega, by omega⟩ ?_
    refine jJ_aload_n (pc := 51) dX5_addToken_51 rfl ?_
    refine jJ_getr (pc := 52) dX5_addToken_52 fX5_28 rfl (by assumption) (by assumption) ?_
    refine jJ_aload_n (pc := 55) dX5_addToken_55 rfl ?_
    refine jJ_geti (pc := 56) dX5_addToken_56 fX5_59 rfl (by assumption) ?_
    simp only [jput_a _ n1, jput_a _ n2, jput_a _ n3, jput_a _ n4]
    refine jJ_iload (pc := 59) dX5_addToken_59 rfl ?_
    refine jJ_iast (pc := 61) dX5_addToken_61 a5 ⟨by omega, by omega⟩ ?_
    refine jJ_aload_n (pc := 62) dX5_addToken_62 rfl ?_
    refine jJ_dup (pc := 63) dX5_addToken_63 rfl ?_
    refine jJ_geti (pc := 64) dX5_addToken_64 fX5_59 rfl (by assumption) ?_
    simp only [jput_a _ n1, jput_a _ n2, jput_a _ n3, jput_a _ n4, jput_a _ n5]
    refine jJ_iconst (pc := 67) dX5_addToken_67 (by decide) ?_
    refine jJ_iadd (pc := 68) dX5_addToken_68 ⟨by omega, by omega⟩ ?_
    refine jJ_puti (pc := 69) dX5_addToken_69 fX5_59w rfl ⟨rfl, rfl⟩ (by assumption) ?_
    refine jJ_vret (pc := 72) dX5_addToken_72 rfl ?_
    exact ⟨rfl, rfl, rfl⟩
/-- the first n gaps are seen -/
def gapM (I : jI) (x : Nat) (q : Nat → Nat) (n : Nat) : jI := fun a k => if a = q 6 ∧ k < n then kindB (I (q 3) k) (I (q 3) (k + 1)) else if a = q 7 ∧ k < n then chB (tByte (I x 9) (I (q 0))) (I (q 2) k) (I (q 1) (k + 1)) (I (q 4) (k + 1)) else I a k
theorem gapM_x {I : jI} {x : Nat} {q : Nat → Nat} {n a : Nat} (h6 : a ≠ q 6) (h7 : a ≠ q 7) (k : Nat) : gapM I x q n a k = I a k := by simp [gapM, h6, h7]
theorem gapM_s {I : jI} {x : Nat} {q : Nat → Nat} {n : Nat} (h : q 6 ≠ q 7) : jput (jput (gapM I x q n) (q 6) n (kindB (I (q 3) n) (I (q 3) (n + 1)))) (q 7) n (chB (tByte (I x 9) (I (q 0))) (I (q 2) n) (I (q 1) (n + 1)) (I (q 4) (n + 1))) = gapM I x q (n + 1) := by
  funext a k
  simp only [jput, gapM]
  by_cases h7 : a = q 7
  · subst h7
    simp only [true_and, Ne.symm h, false_and, if_false]
    by_cases hk : k = n
    · subst hk; simp
    · by_cases hk2 : k < n
      · simp [hk, hk2, Nat.lt_succ_of_lt hk2]
      · have : ¬ k < n + 1 := by omega
        simp [hk, hk2, this]
  · by_cases h6 : a = q 6
    · subst h6
      simp only [h7, true_and, false_and, if_false]
      by_cases hk : k = n
      · subst hk; simp
      · by_cases hk2 : k < n
        · simp [hk, hk2, Nat.lt_succ_of_lt hk2]
        · have : ¬ k < n + 1 := by omega
          simp [hk, hk2, this]
    · simp [h6, h7]
/-- the rows of a TEXT's TOKENS hold what they may -/
def TokR (I : jI) (q : Nat → Nat) (n : Nat) : Prop := ∀ k, k < n → (0 ≤ I (q 1) k ∧ I (q 1) k ≤ 800) ∧ (0 ≤ I (q 2) k ∧ I (q 2) k ≤ 800) ∧ (-1000 ≤ I (q 4) k ∧ I (q 4) k ≤ 1000)
def TxD (q : Nat → Nat) : Prop := ∀ i j, i ≤ 7 → j ≤ 7 → q i = q j → i = j
theorem seeGaps_loop {x : Nat} {q : Nat → Nat} {n : Nat} (hx : TxL E P x q) (hq : TxD q) (hl : I x 9 ≤ 800) (hn : I x 11 = (n : Int)) (hn2 : n ≤ 200) (hT : TokR I q n) (hd : 3 ≤ d) :
    ∀ (k i : Nat), i + k = n - 1 → jJ E yX5_seeGaps.cls cX5_seeGaps 2 none (jRm d) (jZ E (jD none (gapM I x q (n - 1)) P)) 0 0 2 [some (jp x), some (ji (i : Int))] [] (gapM I x q i) P := by
  have hx0 := hx
  obtain ⟨h0, ⟨p0, p1, p2, p3, p4, p5, p6, p7⟩, ⟨a0, a1, a2, a3, a4, a5, a6, a7⟩⟩ := hx
  have n6 : x ≠ q 6 := jne h0.2 a6.2.1 (by decide)
  have n7 : x ≠ q 7 := jne h0.2 a7.2.1 (by decide)
  have m0 : q 0 ≠ q 6 := fun z => by have := hq 0 6 (by decide) (by decide) z; omega
  have m0' : q 0 ≠ q 7 := fun z => by have := hq 0 7 (by decide) (by decide) z; omega
  have m1 : q 1 ≠ q 6 := fun z => by have := hq 1 6 (by decide) (by decide) z; omega
  have m1' : q 1 ≠ q 7 := fun z => by have := hq 1 7 (by decide) (by decide) z; omega
  have m2 : q 2 ≠ q 6 := fun z => by have := hq 2 6 (by decide) (by decide) z; omega
  have m2' : q 2 ≠ q 7 := fun z => by have := hq 2 7 (by decide) (by decide) z; omega
  have m3 : q 3 ≠ q 6 := fun z => by have := hq 3 6 (by decide) (by decide) z; omega
  have m3' : q 3 ≠ q 7 := fun z => by have := hq 3 7 (by decide) (by decide) z; omega
  have m4 : q 4 ≠ q 6 := fun z => by have := hq 4 6 (by decide) (by decide) z; omega
  have m4' : q 4 ≠ q 7 := fun z => by have := hq 4 7 (by decide) (by decide) z; omega
  have m67 : q 6 ≠ q 7 := fun z => by have := hq 6 7 (by decide) (by decide) z; omega
  intro k
  induction k with
  | zero =>
    intro i hk
    refine jJ_iload_n (pc := 2) dX5_seeGaps_2 rfl ?_
    refine jJ_iconst (pc := 3) dX5_seeGaps_3 (by decide) ?_
    refine jJ_iadd (pc := 4) dX5_seeGaps_4 ⟨by omega, by omega⟩ ?_
    refine jJ_aload_n (pc := 5) dX5_seeGaps_5 rfl ?_
    refine jJ_geti (pc := 6) dX5_seeGaps_6 fX5_59 rfl (by assumption) ?_
    rw [gapM_x n6 n7, hn]
    refine jJ_icmp_ge (pc := 9) (tgt := 73) dX5_seeGaps_9 (by decide) (fun c9 => ?_) (fun c9 => ?_)
    · refine jJ_vret (pc := 73) dX5_seeGaps_73 rfl ?_
      exact ⟨rfl, by rw [show n - 1 = i by omega], rfl⟩
    · exfalso
      omega
  | succ k ih =>
    intro i hk
    have hTi := hT i (by omega)
    have hTj := hT (i + 1) (by omega)
    refine jJ_iload_n (pc := 2) dX5_seeGaps_2 rfl ?_
    refine jJ_iconst (pc := 3) dX5_seeGaps_3 (by decide) ?_
    refine jJ_iadd (pc := 4) dX5_seeGaps_4 ⟨by omega, by omega⟩ ?_
    refine jJ_aload_n (pc := 5) dX5_seeGaps_5 rfl ?_
    refine jJ_geti (pc := 6) dX5_seeGaps_6 fX5_59 rfl (by assumption) ?_
    rw [gapM_x n6 n7, hn]
    refine jJ_icmp_ge (pc := 9) (tgt := 73) dX5_seeGaps_9 (by decide) (fun c9 => ?_) (fun c9 => ?_)
    · exfalso
      omega
    · refine jJ_aload_n (pc := 12) dX5_seeGaps_12 rfl ?_
      refine jJ_getr (pc := 13) dX5_seeGaps_13 fX5_31 rfl (by assumption) (by assumption) ?_
      refine jJ_iload_n (pc := 16) dX5_seeGaps_16 rfl ?_
      refine jJ_aload_n (pc := 17) dX5_seeGaps_17 rfl ?_
      refine jJ_getr (pc := 18) dX5_seeGaps_18 fX5_22 rfl (by assumption) (by assumption) ?_
      refine jJ_iload_n (pc := 21) dX5_seeGaps_21 rfl ?_
      refine jJ_iald (pc := 22) dX5_seeGaps_22 a3 ⟨by omega, by omega⟩ ?_
      refine jJ_aload_n (pc := 23) dX5_seeGaps_23 rfl ?_
      refine jJ_getr (pc := 24) dX5_seeGaps_24 fX5_22 rfl (by assumption) (by assumption) ?_
      refine jJ_iload_n (pc := 27) dX5_seeGaps_27 rfl ?_
      refine jJ_iconst (pc := 28) dX5_seeGaps_28 (by decide) ?_
      refine jJ_iadd (pc := 29) dX5_seeGaps_29 ⟨by omega, by omega⟩ ?_
      refine jJ_iald (pc := 30) dX5_seeGaps_30 a3 ⟨by omega, by omega⟩ ?_
      rw [gapM_x m3 m3', gapM_x m3 m3', show ((i : Int) + 1).toNat = i + 1 by omega, Int.toNat_natCast]
      refine jJ_callSd (pc := 31) (as := [_, _]) dX5_seeGaps_31 mX5_62 (Nat.le_of_ble_eq_true rfl) (jRm_ok (by omega) (by decide)) (c_Text_kindBetween (d := d - 1) (by omega)) ?_
      refine jJ_iast (pc := 34) dX5_seeGaps_34 a6 ⟨by omega, by omega⟩ ?_
      rw [Int.toNat_natCast]
      refine jJ_aload_n (pc := 35) dX5_seeGaps_35 rfl ?_
      refine jJ_getr (pc := 36) dX5_seeGaps_36 fX5_34 rfl (by assumption) (by assumption) ?_
      refine jJ_iload_n (pc := 39) dX5_seeGaps_39 rfl ?_
      refine jJ_aload_n (pc := 40) dX5_seeGaps_40 rfl ?_
      refine jJ_aload_n (pc := 41) dX5_seeGaps_41 rfl ?_
      refine jJ_getr (pc := 42) dX5_seeGaps_42 fX5_19 rfl (by assumption) (by assumption) ?_
      refine jJ_iload_n (pc := 45) dX5_seeGaps_45 rfl ?_
      refine jJ_iald (pc := 46) dX5_seeGaps_46 a2 ⟨by omega, by omega⟩ ?_
      refine jJ_aload_n (pc := 47) dX5_seeGaps_47 rfl ?_
      refine jJ_getr (pc := 48) dX5_seeGaps_48 fX5_15 rfl (by assumption) (by assumption) ?_
      refine jJ_iload_n (pc := 51) dX5_seeGaps_51 rfl ?_
      refine jJ_iconst (pc := 52) dX5_seeGaps_52 (by decide) ?_
      refine jJ_iadd (pc := 53) dX5_seeGaps_53 ⟨by omega, by omega⟩ ?_
      refine jJ_iald (pc := 54) dX5_seeGaps_54 a1 ⟨by omega, by omega⟩ ?_
      refine jJ_aload_n (pc := 55) dX5_seeGaps_55 rfl ?_
      refine jJ_getr (pc := 56) dX5_seeGaps_56 fX5_25 rfl (by assumption) (by assumption) ?_
      refine jJ_iload_n (pc := 59) dX5_seeGaps_59 rfl ?_
      refine jJ_iconst (pc := 60) dX5_seeGaps_60 (by decide) ?_
      refine jJ_iadd (pc := 61) dX5_seeGaps_61 ⟨by omega, by omega⟩ ?_
      refine jJ_iald (pc := 62) dX5_seeGaps_62 a4 ⟨by omega, by omega⟩ ?_
      rw [jput_a _ m4, gapM_x m4 m4', jput_a _ m1, gapM_x m1 m1', jput_a _ m2, gapM_x m2 m2', show ((i : Int) + 1).toNat = i + 1 by omega, Int.toNat_natCast]
      refine jJ_callVd (pc := 63) (as := [_, _, _]) dX5_seeGaps_63 mX5_65 (jRcv_of h0 rfl rfl) (Nat.le_of_ble_eq_true rfl) (jRm_ok (by omega) (by decide)) (c_Text_choiceBetween (d := d - 1) hx0 (by rw [jput_a _ n6, gapM_x n6 n7]; exact hl) ⟨by omega, by omega⟩ ⟨by omega, by omega⟩ ⟨by omega, by omega⟩ (by omega)) ?_
      rw [jput_a _ n6, gapM_x n6 n7, show jput (gapM I x q i) (q 6) i (kindB (I (q 3) i) (I (q 3) (i + 1))) (q 0) = I (q 0) from funext (fun z => by rw [jput_a _ m0, gapM_x m0 m0'])]
      refine jJ_iast (pc := 66) dX5_seeGaps_66 a7 ⟨by omega, by omega⟩ ?_
      rw [Int.toNat_natCast, gapM_s m67]
      refine jJ_iinc (pc := 67) (ls' := [_, _]) dX5_seeGaps_67 rfl ⟨by omega, by omega⟩ rfl ?_
      refine jJ_goto (pc := 70) (tgt := 2) dX5_seeGaps_70 (by decide) ?_
      exact ih (i + 1) (by omega)
theorem c_Text_seeGaps {x : Nat} {q : Nat → Nat} {n : Nat} (hx : TxL E P x q) (hq : TxD q) (hl : I x 9 ≤ 800) (hn : I x 11 = (n : Int)) (hn2 : n ≤ 200) (hT : TokR I q n) (hd : 3 ≤ d) : jC E yX5_seeGaps cX5_seeGaps 2 none d [jp x] I P (jD none (gapM I x q (n - 1)) P) := by
  refine jC_intro (by decide +kernel) (by simp [jc, va_rf, Value.category]) (Nat.le_of_ble_eq_true rfl) ?_
  refine jJ_iconst (pc := 0) dX5_seeGaps_0 (by decide) ?_
  refine jJ_istore_n (pc := 1) (ls' := [_, _]) dX5_seeGaps_1 (Nat.le_of_ble_eq_true rfl) rfl ?_
  have e0 : gapM I x q 0 = I := by funext a k; simp [gapM]
  have h := seeGaps_loop hx hq hl hn hn2 hT hd (n - 1) 0 (by omega)
  rw [e0] at h
  exact h
end JText
