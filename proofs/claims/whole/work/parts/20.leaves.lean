section JLv
variable {E : jE} {I : jI} {P : jP} {d : Nat}
theorem c_isGreat {b : Int} : jC E yX6_isGreat cX6_isGreat 1 (some .boolean) d [ji b] I P (jD (some (ji (jb (65 ≤ b ∧ b ≤ 90)))) I P) := by
  refine jC_intro (by decide +kernel) (by simp [jc, va_rf, Value.category]) (Nat.le_of_ble_eq_true rfl) ?_
  refine jJ_iload_n (pc := 0) dX6_isGreat_0 rfl ?_
  refine jJ_bipush (pc := 1) dX6_isGreat_1 (by decide) ?_
  refine jJ_icmp_lt (pc := 3) (tgt := 16) dX6_isGreat_3 (by decide) (fun c3 => ?_) (fun c3 => ?_)
  · refine jJ_iconst (pc := 16) dX6_isGreat_16 (by decide) ?_
    refine jJ_zret (pc := 17) dX6_isGreat_17 rfl (by decide) ?_
    exact ⟨by first | rw [← jb_t (by omega)] | rw [← jb_f (by omega)], rfl, rfl⟩
  · refine jJ_iload_n (pc := 6) dX6_isGreat_6 rfl ?_
    refine jJ_bipush (pc := 7) dX6_isGreat_7 (by decide) ?_
    refine jJ_icmp_gt (pc := 9) (tgt := 16) dX6_isGreat_9 (by decide) (fun c9 => ?_) (fun c9 => ?_)
    · refine jJ_iconst (pc := 16) dX6_isGreat_16 (by decide) ?_
      refine jJ_zret (pc := 17) dX6_isGreat_17 rfl (by decide) ?_
      exact ⟨by first | rw [← jb_t (by omega)] | rw [← jb_f (by omega)], rfl, rfl⟩
    · refine jJ_iconst (pc := 12) dX6_isGreat_12 (by decide) ?_
      refine jJ_goto (pc := 13) (tgt := 17) dX6_isGreat_13 (by decide) ?_
      refine jJ_zret (pc := 17) dX6_isGreat_17 rfl (by decide) ?_
      exact ⟨by first | rw [← jb_t (by omega)] | rw [← jb_f (by omega)], rfl, rfl⟩
theorem c_isSmall {b : Int} : jC E yX6_isSmall cX6_isSmall 1 (some .boolean) d [ji b] I P (jD (some (ji (jb (97 ≤ b ∧ b ≤ 122)))) I P) := by
  refine jC_intro (by decide +kernel) (by simp [jc, va_rf, Value.category]) (Nat.le_of_ble_eq_true rfl) ?_
  refine jJ_iload_n (pc := 0) dX6_isSmall_0 rfl ?_
  refine jJ_bipush (pc := 1) dX6_isSmall_1 (by decide) ?_
  refine jJ_icmp_lt (pc := 3) (tgt := 16) dX6_isSmall_3 (by decide) (fun c3 => ?_) (fun c3 => ?_)
  · refine jJ_iconst (pc := 16) dX6_isSmall_16 (by decide) ?_
    refine jJ_zret (pc := 17) dX6_isSmall_17 rfl (by decide) ?_
    exact ⟨by first | rw [← jb_t (by omega)] | rw [← jb_f (by omega)], rfl, rfl⟩
  · refine jJ_iload_n (pc := 6) dX6_isSmall_6 rfl ?_
    refine jJ_bipush (pc := 7) dX6_isSmall_7 (by decide) ?_
    refine jJ_icmp_gt (pc := 9) (tgt := 16) dX6_isSmall_9 (by decide) (fun c9 => ?_) (fun c9 => ?_)
    · refine jJ_iconst (pc := 16) dX6_isSmall_16 (by decide) ?_
      refine jJ_zret (pc := 17) dX6_isSmall_17 rfl (by decide) ?_
      exact ⟨by first | rw [← jb_t (by omega)] | rw [← jb_f (by omega)], rfl, rfl⟩
    · refine jJ_iconst (pc := 12) dX6_isSmall_12 (by decide) ?_
      refine jJ_goto (pc := 13) (tgt := 17) dX6_isSmall_13 (by decide) ?_
      refine jJ_zret (pc := 17) dX6_isSmall_17 rfl (by decide) ?_
      exact ⟨by first | rw [← jb_t (by omega)] | rw [← jb_f (by omega)], rfl, rfl⟩
theorem c_isDigit {b : Int} : jC E yX6_isDigit cX6_isDigit 1 (some .boolean) d [ji b] I P (jD (some (ji (jb (48 ≤ b ∧ b ≤ 57)))) I P) := by
  refine jC_intro (by decide +kernel) (by simp [jc, va_rf, Value.category]) (Nat.le_of_ble_eq_true rfl) ?_
  refine jJ_iload_n (pc := 0) dX6_isDigit_0 rfl ?_
  refine jJ_bipush (pc := 1) dX6_isDigit_1 (by decide) ?_
  refine jJ_icmp_lt (pc := 3) (tgt := 16) dX6_isDigit_3 (by decide) (fun c3 => ?_) (fun c3 => ?_)
  · refine jJ_iconst (pc := 16) dX6_isDigit_16 (by decide) ?_
    refine jJ_zret (pc := 17) dX6_isDigit_17 rfl (by decide) ?_
    exact ⟨by first | rw [← jb_t (by omega)] | rw [← jb_f (by omega)], rfl, rfl⟩
  · refine jJ_iload_n (pc := 6) dX6_isDigit_6 rfl ?_
    refine jJ_bipush (pc := 7) dX6_isDigit_7 (by decide) ?_
    refine jJ_icmp_gt (pc := 9) (tgt := 16) dX6_isDigit_9 (by decide) (fun c9 => ?_) (fun c9 => ?_)
    · refine jJ_iconst (pc := 16) dX6_isDigit_16 (by decide) ?_
      refine jJ_zret (pc := 17) dX6_isDigit_17 rfl (by decide) ?_
      exact ⟨by first | rw [← jb_t (by omega)] | rw [← jb_f (by omega)], rfl, rfl⟩
    · refine jJ_iconst (pc := 12) dX6_isDigit_12 (by decide) ?_
      refine jJ_goto (pc := 13) (tgt := 17) dX6_isDigit_13 (by decide) ?_
      refine jJ_zret (pc := 17) dX6_isDigit_17 rfl (by decide) ?_
      exact ⟨by first | rw [← jb_t (by omega)] | rw [← jb_f (by omega)], rfl, rfl⟩
theorem c_isOperator {b : Int} : jC E yX6_isOperator cX6_isOperator 1 (some .boolean) d [ji b] I P (jD (some (ji (jb (b = 43 ∨ b = 45 ∨ b = 60)))) I P) := by
  refine jC_intro (by decide +kernel) (by simp [jc, va_rf, Value.category]) (Nat.le_of_ble_eq_true rfl) ?_
  refine jJ_iload_n (pc := 0) dX6_isOperator_0 rfl ?_
  refine jJ_bipush (pc := 1) dX6_isOperator_1 (by decide) ?_
  refine jJ_icmp_eq (pc := 3) (tgt := 18) dX6_isOperator_3 (by decide) (fun c3 => ?_) (fun c3 => ?_)
  · refine jJ_iconst (pc := 18) dX6_isOperator_18 (by decide) ?_
    refine jJ_goto (pc := 19) (tgt := 23) dX6_isOperator_19 (by decide) ?_
    refine jJ_zret (pc := 23) dX6_isOperator_23 rfl (by decide) ?_
    exact ⟨by first | rw [← jb_t (by omega)] | rw [← jb_f (by omega)], rfl, rfl⟩
  · refine jJ_iload_n (pc := 6) dX6_isOperator_6 rfl ?_
    refine jJ_bipush (pc := 7) dX6_isOperator_7 (by decide) ?_
    refine jJ_icmp_eq (pc := 9) (tgt := 18) dX6_isOperator_9 (by decide) (fun c9 => ?_) (fun c9 => ?_)
    · refine jJ_iconst (pc := 18) dX6_isOperator_18 (by decide) ?_
      refine jJ_goto (pc := 19) (tgt := 23) dX6_isOperator_19 (by decide) ?_
      refine jJ_zret (pc := 23) dX6_isOperator_23 rfl (by decide) ?_
      exact ⟨by first | rw [← jb_t (by omega)] | rw [← jb_f (by omega)], rfl, rfl⟩
    · refine jJ_iload_n (pc := 12) dX6_isOperator_12 rfl ?_
      refine jJ_bipush (pc := 13) dX6_isOperator_13 (by decide) ?_
      refine jJ_icmp_ne (pc := 15) (tgt := 22) dX6_isOperator_15 (by decide) (fun c15 => ?_) (fun c15 => ?_)
      · refine jJ_iconst (pc := 22) dX6_isOperator_22 (by decide) ?_
        refine jJ_zret (pc := 23) dX6_isOperator_23 rfl (by decide) ?_
        exact ⟨by first | rw [← jb_t (by omega)] | rw [← jb_f (by omega)], rfl, rfl⟩
      · refine jJ_iconst (pc := 18) dX6_isOperator_18 (by decide) ?_
        refine jJ_goto (pc := 19) (tgt := 23) dX6_isOperator_19 (by decide) ?_
        refine jJ_zret (pc := 23) dX6_isOperator_23 rfl (by decide) ?_
        exact ⟨by first | rw [← jb_t (by omega)] | rw [← jb_f (by omega)], rfl, rfl⟩
theorem c_isTextNumber {t : Int} : jC E yX6_isTextNumber cX6_isTextNumber 1 (some .boolean) d [ji t] I P (jD (some (ji (jb (0 ≤ t ∧ t < 12)))) I P) := by
  refine jC_intro (by decide +kernel) (by simp [jc, va_rf, Value.category]) (Nat.le_of_ble_eq_true rfl) ?_
  refine jJ_iload_n (pc := 0) dX6_isTextNumber_0 rfl ?_
  refine jJ_if_lt (pc := 1) (tgt := 14) dX6_isTextNumber_1 (by decide) (fun c1 => ?_) (fun c1 => ?_)
  · refine jJ_iconst (pc := 14) dX6_isTextNumber_14 (by decide) ?_
    refine jJ_zret (pc := 15) dX6_isTextNumber_15 rfl (by decide) ?_
    exact ⟨by first | rw [← jb_t (by omega)] | rw [← jb_f (by omega)], rfl, rfl⟩
  · refine jJ_iload_n (pc := 4) dX6_isTextNumber_4 rfl ?_
    refine jJ_bipush (pc := 5) dX6_isTextNumber_5 (by decide) ?_
    refine jJ_icmp_ge (pc := 7) (tgt := 14) dX6_isTextNumber_7 (by decide) (fun c7 => ?_) (fun c7 => ?_)
    · refine jJ_iconst (pc := 14) dX6_isTextNumber_14 (by decide) ?_
      refine jJ_zret (pc := 15) dX6_isTextNumber_15 rfl (by decide) ?_
      exact ⟨by first | rw [← jb_t (by omega)] | rw [← jb_f (by omega)], rfl, rfl⟩
    · refine jJ_iconst (pc := 10) dX6_isTextNumber_10 (by decide) ?_
      refine jJ_goto (pc := 11) (tgt := 15) dX6_isTextNumber_11 (by decide) ?_
      refine jJ_zret (pc := 15) dX6_isTextNumber_15 rfl (by decide) ?_
      exact ⟨by first | rw [← jb_t (by omega)] | rw [← jb_f (by omega)], rfl, rfl⟩
def kepA (kind choice : Int) : Int := if kind = 15 ∧ choice = 0 then 1 else choice
theorem c_keptApart {k c : Int} : jC E yX6_keptApart cX6_keptApart 2 (some .int) d [ji k, ji c] I P (jD (some (ji (kepA k c))) I P) := by
  refine jC_intro (by decide +kernel) (by simp [jc, va_rf, Value.category]) (Nat.le_of_ble_eq_true rfl) ?_
  refine jJ_iload_n (pc := 0) dX6_keptApart_0 rfl ?_
  refine jJ_bipush (pc := 1) dX6_keptApart_1 (by decide) ?_
  refine jJ_icmp_ne (pc := 3) (tgt := 14) dX6_keptApart_3 (by decide) (fun c3 => ?_) (fun c3 => ?_)
  · refine jJ_iload_n (pc := 14) dX6_keptApart_14 rfl ?_
    refine jJ_iret (pc := 15) dX6_keptApart_15 rfl ?_
    exact ⟨by unfold kepA; split <;> first | rfl | (exfalso; omega), rfl, rfl⟩
  · refine jJ_iload_n (pc := 6) dX6_keptApart_6 rfl ?_
    refine jJ_if_ne (pc := 7) (tgt := 14) dX6_keptApart_7 (by decide) (fun c7 => ?_) (fun c7 => ?_)
    · refine jJ_iload_n (pc := 14) dX6_keptApart_14 rfl ?_
      refine jJ_iret (pc := 15) dX6_keptApart_15 rfl ?_
      exact ⟨by unfold kepA; split <;> first | rfl | (exfalso; omega), rfl, rfl⟩
    · refine jJ_iconst (pc := 10) dX6_keptApart_10 (by decide) ?_
      refine jJ_goto (pc := 11) (tgt := 15) dX6_keptApart_11 (by decide) ?_
      refine jJ_iret (pc := 15) dX6_keptApart_15 rfl ?_
      exact ⟨by unfold kepA; split <;> first | rfl | (exfalso; omega), rfl, rfl⟩
/-! Habit: 0 tests, 1 first, 2 its choice, 3 second, 4 its choice, 5 last, 6 cost, 7 exceptions -/
theorem c_Habit_setFirst {a : Nat} {t c : Int} (ha : jK E 0 a) : jC E yX0_setFirst cX0_setFirst 3 none d [jp a, ji t, ji c] I P (jD none (jput (jput I a 1 t) a 2 c) P) := by
  refine jC_intro (by decide +kernel) (by simp [jc, va_rf, Value.category]) (Nat.le_of_ble_eq_true rfl) ?_
  refine jJ_aload_n (pc := 0) dX0_setFirst_0 rfl ?_
  refine jJ_iload_n (pc := 1) dX0_setFirst_1 rfl ?_
  refine jJ_puti (pc := 2) dX0_setFirst_2 fX0_9w rfl ⟨rfl, rfl⟩ (by assumption) ?_
  refine jJ_aload_n (pc := 5) dX0_setFirst_5 rfl ?_
  refine jJ_iload_n (pc := 6) dX0_setFirst_6 rfl ?_
  refine jJ_puti (pc := 7) dX0_setFirst_7 fX0_15w rfl ⟨rfl, rfl⟩ (by assumption) ?_
  refine jJ_vret (pc := 10) dX0_setFirst_10 rfl ?_
  exact ⟨rfl, rfl, rfl⟩
theorem c_Habit_setSecond {a : Nat} {t c : Int} (ha : jK E 0 a) : jC E yX0_setSecond cX0_setSecond 3 none d [jp a, ji t, ji c] I P (jD none (jput (jput I a 3 t) a 4 c) P) := by
  refine jC_intro (by decide +kernel) (by simp [jc, va_rf, Value.category]) (Nat.le_of_ble_eq_true rfl) ?_
  refine jJ_aload_n (pc := 0) dX0_setSecond_0 rfl ?_
  refine jJ_iload_n (pc := 1) dX0_setSecond_1 rfl ?_
  refine jJ_puti (pc := 2) dX0_setSecond_2 fX0_18w rfl ⟨rfl, rfl⟩ (by assumption) ?_
  refine jJ_aload_n (pc := 5) dX0_setSecond_5 rfl ?_
  refine jJ_iload_n (pc := 6) dX0_setSecond_6 rfl ?_
  refine jJ_puti (pc := 7) dX0_setSecond_7 fX0_21w rfl ⟨rfl, rfl⟩ (by assumption) ?_
  refine jJ_vret (pc := 10) dX0_setSecond_10 rfl ?_
  exact ⟨rfl, rfl, rfl⟩
theorem c_Habit_setRest {a : Nat} {n c q x : Int} (ha : jK E 0 a) : jC E yX0_setRest cX0_setRest 5 none d [jp a, ji n, ji c, ji q, ji x] I P (jD none (jput (jput (jput (jput I a 0 n) a 5 c) a 6 q) a 7 x) P) := by
  refine jC_intro (by decide +kernel) (by simp [jc, va_rf, Value.category]) (Nat.le_of_ble_eq_true rfl) ?_
  refine jJ_aload_n (pc := 0) dX0_setRest_0 rfl ?_
  refine jJ_iload_n (pc := 1) dX0_setRest_1 rfl ?_
  refine jJ_puti (pc := 2) dX0_setRest_2 fX0_24w rfl ⟨rfl, rfl⟩ (by assumption) ?_
  refine jJ_aload_n (pc := 5) dX0_setRest_5 rfl ?_
  refine jJ_iload_n (pc := 6) dX0_setRest_6 rfl ?_
  refine jJ_puti (pc := 7) dX0_setRest_7 fX0_27w rfl ⟨rfl, rfl⟩ (by assumption) ?_
  refine jJ_aload_n (pc := 10) dX0_setRest_10 rfl ?_
  refine jJ_iload_n (pc := 11) dX0_setRest_11 rfl ?_
  refine jJ_puti (pc := 12) dX0_setRest_12 fX0_30w rfl ⟨rfl, rfl⟩ (by assumption) ?_
  refine jJ_aload_n (pc := 15) dX0_setRest_15 rfl ?_
  refine jJ_iload (pc := 16) dX0_setRest_16 rfl ?_
  refine jJ_puti (pc := 18) dX0_setRest_18 fX0_33w rfl ⟨rfl, rfl⟩ (by assumption) ?_
  refine jJ_vret (pc := 21) dX0_setRest_21 rfl ?_
  exact ⟨rfl, rfl, rfl⟩
def habTell (I : jI) (a : Nat) (w : Int) : Int := if w = 0 then I a 0 else if w = 1 then I a 1 else if w = 2 then I a 2 else if w = 3 then I a 3 else if w = 4 then I a 4 else if w = 5 then I a 5 else if w = 6 then I a 6 else I a 7
/-- what a habit's row tells where the bits of the tests are these -/
def habRow (n f fc s sc l bits : Int) : Int := if n > 0 ∧ jAnd (jShr bits f) 1 = 1 then fc else if n > 1 ∧ jAnd (jShr bits s) 1 = 1 then sc else l
theorem c_Habit_tells {a : Nat} {k bits : Int} (ha : jK E 0 a) (hd : 1 ≤ d) : jC E yX0_tells cX0_tells 4 (some .int) d [jp a, ji k, ji bits] I P (jD (some (ji (kepA k (habRow (I a 0) (I a 1) (I a 2) (I a 3) (I a 4) (I a 5) bits)))) I P) := by
  refine jC_intro (by decide +kernel) (by simp [jc, va_rf, Value.category]) (Nat.le_of_ble_eq_true rfl) ?_
  refine jJ_aload_n (pc := 0) dX0_tells_0 rfl ?_
  refine jJ_geti (pc := 1) dX0_tells_1 fX0_27 rfl (by assumption) ?_
  refine jJ_istore_n (pc := 4) (ls' := [_, _, _, _]) dX0_tells_4 (Nat.le_of_ble_eq_true rfl) rfl ?_
  refine jJ_aload_n (pc := 5) dX0_tells_5 rfl ?_
  refine jJ_geti (pc := 6) dX0_tells_6 fX0_24 rfl (by assumption) ?_
  refine jJ_if_le (pc := 9) (tgt := 32) dX0_tells_9 (by decide) (fun c9 => ?_) (fun c9 => ?_)
  · refine jJ_aload_n (pc := 32) dX0_tells_32 rfl ?_
    refine jJ_geti (pc := 33) dX0_tells_33 fX0_24 rfl (by assumption) ?_
    refine jJ_iconst (pc := 36) dX0_tells_36 (by decide) ?_
    refine jJ_icmp_le (pc := 37) (tgt := 57) dX0_tells_37 (by decide) (fun c37 => ?_) (fun c37 => ?_)
    · refine jJ_iload_n (pc := 57) dX0_tells_57 rfl ?_
      refine jJ_iload_n (pc := 58) dX0_tells_58 rfl ?_
      refine jJ_callSd (pc := 59) (as := [_, _]) dX0_tells_59 mX0_36 (Nat.le_of_ble_eq_true rfl) (jRm_ok (by omega) (by decide)) (c_keptApart (d := d - 1)) ?_
      refine jJ_iret (pc := 62) dX0_tells_62 rfl ?_
      exact ⟨by unfold habRow; (repeat' split) <;> first | rfl | (exfalso; omega), rfl, rfl⟩
    · refine jJ_iload_n (pc := 40) dX0_tells_40 rfl ?_
      refine jJ_aload_n (pc := 41) dX0_tells_41 rfl ?_
      refine jJ_geti (pc := 42) dX0_tells_42 fX0_18 rfl (by assumption) ?_
      refine jJ_ishr (pc := 45) dX0_tells_45 ?_
      refine jJ_iconst (pc := 46) dX0_tells_46 (by decide) ?_
      refine jJ_iand (pc := 47) dX0_tells_47 ?_
      refine jJ_iconst (pc := 48) dX0_tells_48 (by decide) ?_
      refine jJ_icmp_ne (pc := 49) (tgt := 57) dX0_tells_49 (by decide) (fun c49 => ?_) (fun c49 => ?_)
      · refine jJ_iload_n (pc := 57) dX0_tells_57 rfl ?_
        refine jJ_iload_n (pc := 58) dX0_tells_58 rfl ?_
        refine jJ_callSd (pc := 59) (as := [_, _]) dX0_tells_59 mX0_36 (Nat.le_of_ble_eq_true rfl) (jRm_ok (by omega) (by decide)) (c_keptApart (d := d - 1)) ?_
        refine jJ_iret (pc := 62) dX0_tells_62 rfl ?_
        exact ⟨by unfold habRow; (repeat' split) <;> first | rfl | (exfalso; omega), rfl, rfl⟩
      · refine jJ_aload_n (pc := 52) dX0_tells_52 rfl ?_
        refine jJ_geti (pc := 53) dX0_tells_53 fX0_21 rfl (by assumption) ?_
        refine jJ_istore_n (pc := 56) (ls' := [_, _, _, _]) dX0_tells_56 (Nat.le_of_ble_eq_true rfl) rfl ?_
        refine jJ_iload_n (pc := 57) dX0_tells_57 rfl ?_
        refine jJ_iload_n (pc := 58) dX0_tells_58 rfl ?_
        refine jJ_callSd (pc := 59) (as := [_, _]) dX0_tells_59 mX0_36 (Nat.le_of_ble_eq_true rfl) (jRm_ok (by omega) (by decide)) (c_keptApart (d := d - 1)) ?_
        refine jJ_iret (pc := 62) dX0_tells_62 rfl ?_
        exact ⟨by unfold habRow; (repeat' split) <;> first | rfl | (exfalso; omega), rfl, rfl⟩
  · refine jJ_iload_n (pc := 12) dX0_tells_12 rfl ?_
    refine jJ_aload_n (pc := 13) dX0_tells_13 rfl ?_
    refine jJ_geti (pc := 14) dX0_tells_14 fX0_9 rfl (by assumption) ?_
    refine jJ_ishr (pc := 17) dX0_tells_17 ?_
    refine jJ_iconst (pc := 18) dX0_tells_18 (by decide) ?_
    refine jJ_iand (pc := 19) dX0_tells_19 ?_
    refine jJ_iconst (pc := 20) dX0_tells_20 (by decide) ?_
    refine jJ_icmp_ne (pc := 21) (tgt := 32) dX0_tells_21 (by decide) (fun c21 => ?_) (fun c21 => ?_)
    · refine jJ_aload_n (pc := 32) dX0_tells_32 rfl ?_
      refine jJ_geti (pc := 33) dX0_tells_33 fX0_24 rfl (by assumption) ?_
      refine jJ_iconst (pc := 36) dX0_tells_36 (by decide) ?_
      refine jJ_icmp_le (pc := 37) (tgt := 57) dX0_tells_37 (by decide) (fun c37 => ?_) (fun c37 => ?_)
      · refine jJ_iload_n (pc := 57) dX0_tells_57 rfl ?_
        refine jJ_iload_n (pc := 58) dX0_tells_58 rfl ?_
        refine jJ_callSd (pc := 59) (as := [_, _]) dX0_tells_59 mX0_36 (Nat.le_of_ble_eq_true rfl) (jRm_ok (by omega) (by decide)) (c_keptApart (d := d - 1)) ?_
        refine jJ_iret (pc := 62) dX0_tells_62 rfl ?_
        exact ⟨by unfold habRow; (repeat' split) <;> first | rfl | (exfalso; omega), rfl, rfl⟩
      · refine jJ_iload_n (pc := 40) dX0_tells_40 rfl ?_
        refine jJ_aload_n (pc := 41) dX0_tells_41 rfl ?_
        refine jJ_geti (pc := 42) dX0_tells_42 fX0_18 rfl (by assumption) ?_
        refine jJ_ishr (pc := 45) dX0_tells_45 ?_
        refine jJ_iconst (pc := 46) dX0_tells_46 (by decide) ?_
        refine jJ_iand (pc := 47) dX0_tells_47 ?_
        refine jJ_iconst (pc := 48) dX0_tells_48 (by decide) ?_
        refine jJ_icmp_ne (pc := 49) (tgt := 57) dX0_tells_49 (by decide) (fun c49 => ?_) (fun c49 => ?_)
        · refine jJ_iload_n (pc := 57) dX0_tells_57 rfl ?_
          refine jJ_iload_n (pc := 58) dX0_tells_58 rfl ?_
          refine jJ_callSd (pc := 59) (as := [_, _]) dX0_tells_59 mX0_36 (Nat.le_of_ble_eq_true rfl) (jRm_ok (by omega) (by decide)) (c_keptApart (d := d - 1)) ?_
          refine jJ_iret (pc := 62) dX0_tells_62 rfl ?_
          exact ⟨by unfold habRow; (repeat' split) <;> first | rfl | (exfalso; omega), rfl, rfl⟩
        · refine jJ_aload_n (pc := 52) dX0_tells_52 rfl ?_
          refine jJ_geti (pc := 53) dX0_tells_53 fX0_21 rfl (by assumption) ?_
          refine jJ_istore_n (pc := 56) (ls' := [_, _, _, _]) dX0_tells_56 (Nat.le_of_ble_eq_true rfl) rfl ?_
          refine jJ_iload_n (pc := 57) dX0_tells_57 rfl ?_
          refine jJ_iload_n (pc := 58) dX0_tells_58 rfl ?_
          refine jJ_callSd (pc := 59) (as := [_, _]) dX0_tells_59 mX0_36 (Nat.le_of_ble_eq_true rfl) (jRm_ok (by omega) (by decide)) (c_keptApart (d := d - 1)) ?_
          refine jJ_iret (pc := 62) dX0_tells_62 rfl ?_
          exact ⟨by unfold habRow; (repeat' split) <;> first | rfl | (exfalso; omega), rfl, rfl⟩
    · refine jJ_aload_n (pc := 24) dX0_tells_24 rfl ?_
      refine jJ_geti (pc := 25) dX0_tells_25 fX0_15 rfl (by assumption) ?_
      refine jJ_istore_n (pc := 28) (ls' := [_, _, _, _]) dX0_tells_28 (Nat.le_of_ble_eq_true rfl) rfl ?_
      refine jJ_goto (pc := 29) (tgt := 57) dX0_tells_29 (by decide) ?_
      refine jJ_iload_n (pc := 57) dX0_tells_57 rfl ?_
      refine jJ_iload_n (pc := 58) dX0_tells_58 rfl ?_
      refine jJ_callSd (pc := 59) (as := [_, _]) dX0_tells_59 mX0_36 (Nat.le_of_ble_eq_true rfl) (jRm_ok (by omega) (by decide)) (c_keptApart (d := d - 1)) ?_
      refine jJ_iret (pc := 62) dX0_tells_62 rfl ?_
      exact ⟨by unfold habRow; (repeat' split) <;> first | rfl | (exfalso; omega), rfl, rfl⟩
end JLv
