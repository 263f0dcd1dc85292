section JRef0
variable {E : jE} {I : jI} {P : jP} {d m : Nat} {a : Nat → Nat}
theorem r_isLetter {b : Int} : jC E yX7_isLetter cX7_isLetter 1 (some .boolean) d [ji b] I P (jD (some (ji (jb ((97 ≤ b ∧ b ≤ 122) ∨ (65 ≤ b ∧ b ≤ 90))))) I P) := by
  refine jC_intro (by decide +kernel) (by simp [jc, va_rf, Value.category]) (Nat.le_of_ble_eq_true rfl) ?_
  refine jJ_iload_n (pc := 0) dX7_isLetter_0 rfl ?_
  refine jJ_bipush (pc := 1) dX7_isLetter_1 (by decide) ?_
  refine jJ_icmp_lt (pc := 3) (tgt := 12) dX7_isLetter_3 (by decide) (fun c3 => ?_) (fun c3 => ?_)
  · refine jJ_iload_n (pc := 12) dX7_isLetter_12 rfl ?_
    refine jJ_bipush (pc := 13) dX7_isLetter_13 (by decide) ?_
    refine jJ_icmp_lt (pc := 15) (tgt := 28) dX7_isLetter_15 (by decide) (fun c15 => ?_) (fun c15 => ?_)
    · refine jJ_iconst (pc := 28) dX7_isLetter_28 (by decide) ?_
      refine jJ_zret (pc := 29) dX7_isLetter_29 rfl (by decide) ?_
      exact ⟨by first | (exfalso; omega) | rw [← jb_t (by omega)] | rw [← jb_f (by omega)], rfl, rfl⟩
    · refine jJ_iload_n (pc := 18) dX7_isLetter_18 rfl ?_
      refine jJ_bipush (pc := 19) dX7_isLetter_19 (by decide) ?_
      refine jJ_icmp_gt (pc := 21) (tgt := 28) dX7_isLetter_21 (by decide) (fun c21 => ?_) (fun c21 => ?_)
      · refine jJ_iconst (pc := 28) dX7_isLetter_28 (by decide) ?_
        refine jJ_zret (pc := 29) dX7_isLetter_29 rfl (by decide) ?_
        exact ⟨by first | (exfalso; omega) | rw [← jb_t (by omega)] | rw [← jb_f (by omega)], rfl, rfl⟩
      · refine jJ_iconst (pc := 24) dX7_isLetter_24 (by decide) ?_
        refine jJ_goto (pc := 25) (tgt := 29) dX7_isLetter_25 (by decide) ?_
        refine jJ_zret (pc := 29) dX7_isLetter_29 rfl (by decide) ?_
        exact ⟨by first | (exfalso; omega) | rw [← jb_t (by omega)] | rw [← jb_f (by omega)], rfl, rfl⟩
  · refine jJ_iload_n (pc := 6) dX7_isLetter_6 rfl ?_
    refine jJ_bipush (pc := 7) dX7_isLetter_7 (by decide) ?_
    refine jJ_icmp_le (pc := 9) (tgt := 24) dX7_isLetter_9 (by decide) (fun c9 => ?_) (fun c9 => ?_)
    · refine jJ_iconst (pc := 24) dX7_isLetter_24 (by decide) ?_
      refine jJ_goto (pc := 25) (tgt := 29) dX7_isLetter_25 (by decide) ?_
      refine jJ_zret (pc := 29) dX7_isLetter_29 rfl (by decide) ?_
      exact ⟨by first | (exfalso; omega) | rw [← jb_t (by omega)] | rw [← jb_f (by omega)], rfl, rfl⟩
    · refine jJ_iload_n (pc := 12) dX7_isLetter_12 rfl ?_
      refine jJ_bipush (pc := 13) dX7_isLetter_13 (by decide) ?_
      refine jJ_icmp_lt (pc := 15) (tgt := 28) dX7_isLetter_15 (by decide) (fun c15 => ?_) (fun c15 => ?_)
      · refine jJ_iconst (pc := 28) dX7_isLetter_28 (by decide) ?_
        refine jJ_zret (pc := 29) dX7_isLetter_29 rfl (by decide) ?_
        exact ⟨by first | (exfalso; omega) | rw [← jb_t (by omega)] | rw [← jb_f (by omega)], rfl, rfl⟩
      · refine jJ_iload_n (pc := 18) dX7_isLetter_18 rfl ?_
        refine jJ_bipush (pc := 19) dX7_isLetter_19 (by decide) ?_
        refine jJ_icmp_gt (pc := 21) (tgt := 28) dX7_isLetter_21 (by decide) (fun c21 => ?_) (fun c21 => ?_)
        · refine jJ_iconst (pc := 28) dX7_isLetter_28 (by decide) ?_
          refine jJ_zret (pc := 29) dX7_isLetter_29 rfl (by decide) ?_
          exact ⟨by first | (exfalso; omega) | rw [← jb_t (by omega)] | rw [← jb_f (by omega)], rfl, rfl⟩
        · refine jJ_iconst (pc := 24) dX7_isLetter_24 (by decide) ?_
          refine jJ_goto (pc := 25) (tgt := 29) dX7_isLetter_25 (by decide) ?_
          refine jJ_zret (pc := 29) dX7_isLetter_29 rfl (by decide) ?_
          exact ⟨by first | (exfalso; omega) | rw [← jb_t (by omega)] | rw [← jb_f (by omega)], rfl, rfl⟩
theorem r_isDigit {b : Int} : jC E yX7_isDigit cX7_isDigit 1 (some .boolean) d [ji b] I P (jD (some (ji (jb (48 ≤ b ∧ b ≤ 57)))) I P) := by
  refine jC_intro (by decide +kernel) (by simp [jc, va_rf, Value.category]) (Nat.le_of_ble_eq_true rfl) ?_
  refine jJ_iload_n (pc := 0) dX7_isDigit_0 rfl ?_
  refine jJ_bipush (pc := 1) dX7_isDigit_1 (by decide) ?_
  refine jJ_icmp_lt (pc := 3) (tgt := 16) dX7_isDigit_3 (by decide) (fun c3 => ?_) (fun c3 => ?_)
  · refine jJ_iconst (pc := 16) dX7_isDigit_16 (by decide) ?_
    refine jJ_zret (pc := 17) dX7_isDigit_17 rfl (by decide) ?_
    exact ⟨by first | (exfalso; omega) | rw [← jb_t (by omega)] | rw [← jb_f (by omega)], rfl, rfl⟩
  · refine jJ_iload_n (pc := 6) dX7_isDigit_6 rfl ?_
    refine jJ_bipush (pc := 7) dX7_isDigit_7 (by decide) ?_
    refine jJ_icmp_gt (pc := 9) (tgt := 16) dX7_isDigit_9 (by decide) (fun c9 => ?_) (fun c9 => ?_)
    · refine jJ_iconst (pc := 16) dX7_isDigit_16 (by decide) ?_
      refine jJ_zret (pc := 17) dX7_isDigit_17 rfl (by decide) ?_
      exact ⟨by first | (exfalso; omega) | rw [← jb_t (by omega)] | rw [← jb_f (by omega)], rfl, rfl⟩
    · refine jJ_iconst (pc := 12) dX7_isDigit_12 (by decide) ?_
      refine jJ_goto (pc := 13) (tgt := 17) dX7_isDigit_13 (by decide) ?_
      refine jJ_zret (pc := 17) dX7_isDigit_17 rfl (by decide) ?_
      exact ⟨by first | (exfalso; omega) | rw [← jb_t (by omega)] | rw [← jb_f (by omega)], rfl, rfl⟩
theorem r_isNumber {b : Int} : jC E yX7_isNumber cX7_isNumber 1 (some .boolean) d [ji b] I P (jD (some (ji (jb (0 ≤ b ∧ b < 12)))) I P) := by
  refine jC_intro (by decide +kernel) (by simp [jc, va_rf, Value.category]) (Nat.le_of_ble_eq_true rfl) ?_
  refine jJ_iload_n (pc := 0) dX7_isNumber_0 rfl ?_
  refine jJ_if_lt (pc := 1) (tgt := 14) dX7_isNumber_1 (by decide) (fun c1 => ?_) (fun c1 => ?_)
  · refine jJ_iconst (pc := 14) dX7_isNumber_14 (by decide) ?_
    refine jJ_zret (pc := 15) dX7_isNumber_15 rfl (by decide) ?_
    exact ⟨by first | (exfalso; omega) | rw [← jb_t (by omega)] | rw [← jb_f (by omega)], rfl, rfl⟩
  · refine jJ_iload_n (pc := 4) dX7_isNumber_4 rfl ?_
    refine jJ_bipush (pc := 5) dX7_isNumber_5 (by decide) ?_
    refine jJ_icmp_ge (pc := 7) (tgt := 14) dX7_isNumber_7 (by decide) (fun c7 => ?_) (fun c7 => ?_)
    · refine jJ_iconst (pc := 14) dX7_isNumber_14 (by decide) ?_
      refine jJ_zret (pc := 15) dX7_isNumber_15 rfl (by decide) ?_
      exact ⟨by first | (exfalso; omega) | rw [← jb_t (by omega)] | rw [← jb_f (by omega)], rfl, rfl⟩
    · refine jJ_iconst (pc := 10) dX7_isNumber_10 (by decide) ?_
      refine jJ_goto (pc := 11) (tgt := 15) dX7_isNumber_11 (by decide) ?_
      refine jJ_zret (pc := 15) dX7_isNumber_15 rfl (by decide) ?_
      exact ⟨by first | (exfalso; omega) | rw [← jb_t (by omega)] | rw [← jb_f (by omega)], rfl, rfl⟩
def rSm (c : Int) : Int := if 65 ≤ c ∧ c ≤ 90 then c + 32 else c
def rGr (c : Int) : Int := if 97 ≤ c ∧ c ≤ 122 then c - 32 else c
theorem r_small {b : Int} : jC E yX7_small cX7_small 1 (some .int) d [ji b] I P (jD (some (ji (rSm b))) I P) := by
  refine jC_intro (by decide +kernel) (by simp [jc, va_rf, Value.category]) (Nat.le_of_ble_eq_true rfl) ?_
  refine jJ_iload_n (pc := 0) dX7_small_0 rfl ?_
  refine jJ_bipush (pc := 1) dX7_small_1 (by decide) ?_
  refine jJ_icmp_lt (pc := 3) (tgt := 19) dX7_small_3 (by decide) (fun c3 => ?_) (fun c3 => ?_)
  · refine jJ_iload_n (pc := 19) dX7_small_19 rfl ?_
    refine jJ_iret (pc := 20) dX7_small_20 rfl ?_
    exact ⟨by unfold rSm; (repeat' split) <;> first | rfl | (exfalso; omega), rfl, rfl⟩
  · refine jJ_iload_n (pc := 6) dX7_small_6 rfl ?_
    refine jJ_bipush (pc := 7) dX7_small_7 (by decide) ?_
    refine jJ_icmp_gt (pc := 9) (tgt := 19) dX7_small_9 (by decide) (fun c9 => ?_) (fun c9 => ?_)
    · refine jJ_iload_n (pc := 19) dX7_small_19 rfl ?_
      refine jJ_iret (pc := 20) dX7_small_20 rfl ?_
      exact ⟨by unfold rSm; (repeat' split) <;> first | rfl | (exfalso; omega), rfl, rfl⟩
    · refine jJ_iload_n (pc := 12) dX7_small_12 rfl ?_
      refine jJ_bipush (pc := 13) dX7_small_13 (by decide) ?_
      refine jJ_iadd (pc := 15) dX7_small_15 ⟨by omega, by omega⟩ ?_
      refine jJ_goto (pc := 16) (tgt := 20) dX7_small_16 (by decide) ?_
      refine jJ_iret (pc := 20) dX7_small_20 rfl ?_
      exact ⟨by unfold rSm; (repeat' split) <;> first | rfl | (exfalso; omega), rfl, rfl⟩
theorem r_great {b : Int} : jC E yX7_great cX7_great 1 (some .int) d [ji b] I P (jD (some (ji (rGr b))) I P) := by
  refine jC_intro (by decide +kernel) (by simp [jc, va_rf, Value.category]) (Nat.le_of_ble_eq_true rfl) ?_
  refine jJ_iload_n (pc := 0) dX7_great_0 rfl ?_
  refine jJ_bipush (pc := 1) dX7_great_1 (by decide) ?_
  refine jJ_icmp_lt (pc := 3) (tgt := 19) dX7_great_3 (by decide) (fun c3 => ?_) (fun c3 => ?_)
  · refine jJ_iload_n (pc := 19) dX7_great_19 rfl ?_
    refine jJ_iret (pc := 20) dX7_great_20 rfl ?_
    exact ⟨by unfold rGr; (repeat' split) <;> first | rfl | (exfalso; omega), rfl, rfl⟩
  · refine jJ_iload_n (pc := 6) dX7_great_6 rfl ?_
    refine jJ_bipush (pc := 7) dX7_great_7 (by decide) ?_
    refine jJ_icmp_gt (pc := 9) (tgt := 19) dX7_great_9 (by decide) (fun c9 => ?_) (fun c9 => ?_)
    · refine jJ_iload_n (pc := 19) dX7_great_19 rfl ?_
      refine jJ_iret (pc := 20) dX7_great_20 rfl ?_
      exact ⟨by unfold rGr; (repeat' split) <;> first | rfl | (exfalso; omega), rfl, rfl⟩
    · refine jJ_iload_n (pc := 12) dX7_great_12 rfl ?_
      refine jJ_bipush (pc := 13) dX7_great_13 (by decide) ?_
      refine jJ_isub (pc := 15) dX7_great_15 ⟨by omega, by omega⟩ ?_
      refine jJ_goto (pc := 16) (tgt := 20) dX7_great_16 (by decide) ?_
      refine jJ_iret (pc := 20) dX7_great_20 rfl ?_
      exact ⟨by unfold rGr; (repeat' split) <;> first | rfl | (exfalso; omega), rfl, rfl⟩
/-- what a habit tells -/
def rTl (bits pair many x b c e last : Int) : Int := if habRow many x b c e last bits = 0 ∧ pair ≠ 0 then 1 else habRow many x b c e last bits
theorem r_tells {bits pair many x b c e last : Int} : jC E yX7_tells cX7_tells 9 (some .int) d [ji bits, ji pair, ji many, ji x, ji b, ji c, ji e, ji last] I P (jD (some (ji (rTl bits pair many x b c e last))) I P) := by
  refine jC_intro (by decide +kernel) (by simp [jc, va_rf, Value.category]) (Nat.le_of_ble_eq_true rfl) ?_
  refine jJ_iload_n (pc := 0) dX7_tells_0 rfl ?_
  refine jJ_if_le (pc := 1) (tgt := 18) dX7_tells_1 (by decide) (fun c1 => ?_) (fun c1 => ?_)
  · refine jJ_iload_n (pc := 18) dX7_tells_18 rfl ?_
    refine jJ_iconst (pc := 19) dX7_tells_19 (by decide) ?_
    refine jJ_icmp_le (pc := 20) (tgt := 38) dX7_tells_20 (by decide) (fun c20 => ?_) (fun c20 => ?_)
    · refine jJ_iload (pc := 38) dX7_tells_38 rfl ?_
      refine jJ_istore (pc := 40) (ls' := [_, _, _, _, _, _, _, _, _]) dX7_tells_40 (Nat.le_of_ble_eq_true rfl) rfl ?_
      refine jJ_iload (pc := 42) dX7_tells_42 rfl ?_
      refine jJ_if_ne (pc := 44) (tgt := 55) dX7_tells_44 (by decide) (fun c44 => ?_) (fun c44 => ?_)
      · refine jJ_iload (pc := 55) dX7_tells_55 rfl ?_
        refine jJ_iret (pc := 57) dX7_tells_57 rfl ?_
        exact ⟨by unfold rTl habRow; (repeat' split) <;> first | rfl | (exfalso; omega), rfl, rfl⟩
      · refine jJ_iload_n (pc := 47) dX7_tells_47 rfl ?_
        refine jJ_if_eq (pc := 48) (tgt := 55) dX7_tells_48 (by decide) (fun c48 => ?_) (fun c48 => ?_)
        · refine jJ_iload (pc := 55) dX7_tells_55 rfl ?_
          refine jJ_iret (pc := 57) dX7_tells_57 rfl ?_
          exact ⟨by unfold rTl habRow; (repeat' split) <;> first | rfl | (exfalso; omega), rfl, rfl⟩
        · refine jJ_iconst (pc := 51) dX7_tells_51 (by decide) ?_
          refine jJ_goto (pc := 52) (tgt := 57) dX7_tells_52 (by decide) ?_
          refine jJ_iret (pc := 57) dX7_tells_57 rfl ?_
          exact ⟨by unfold rTl habRow; (repeat' split) <;> first | rfl | (exfalso; omega), rfl, rfl⟩
    · refine jJ_iload_n (pc := 23) dX7_tells_23 rfl ?_
      refine jJ_iload (pc := 24) dX7_tells_24 rfl ?_
      refine jJ_ishr (pc := 26) dX7_tells_26 ?_
      refine jJ_iconst (pc := 27) dX7_tells_27 (by decide) ?_
      refine jJ_iand (pc := 28) dX7_tells_28 ?_
      refine jJ_iconst (pc := 29) dX7_tells_29 (by decide) ?_
      refine jJ_icmp_ne (pc := 30) (tgt := 38) dX7_tells_30 (by decide) (fun c30 => ?_) (fun c30 => ?_)
      · refine jJ_iload (pc := 38) dX7_tells_38 rfl ?_
        refine jJ_istore (pc := 40) (ls' := [_, _, _, _, _, _, _, _, _]) dX7_tells_40 (Nat.le_of_ble_eq_true rfl) rfl ?_
        refine jJ_iload (pc := 42) dX7_tells_42 rfl ?_
        refine jJ_if_ne (pc := 44) (tgt := 55) dX7_tells_44 (by decide) (fun c44 => ?_) (fun c44 => ?_)
        · refine jJ_iload (pc := 55) dX7_tells_55 rfl ?_
          refine jJ_iret (pc := 57) dX7_tells_57 rfl ?_
          exact ⟨by unfold rTl habRow; (repeat' split) <;> first | rfl | (exfalso; omega), rfl, rfl⟩
        · refine jJ_iload_n (pc := 47) dX7_tells_47 rfl ?_
          refine jJ_if_eq (pc := 48) (tgt := 55) dX7_tells_48 (by decide) (fun c48 => ?_) (fun c48 => ?_)
          · refine jJ_iload (pc := 55) dX7_tells_55 rfl ?_
            refine jJ_iret (pc := 57) dX7_tells_57 rfl ?_
            exact ⟨by unfold rTl habRow; (repeat' split) <;> first | rfl | (exfalso; omega), rfl, rfl⟩
          · refine jJ_iconst (pc := 51) dX7_tells_51 (by decide) ?_
            refine jJ_goto (pc := 52) (tgt := 57) dX7_tells_52 (by decide) ?_
            refine jJ_iret (pc := 57) dX7_tells_57 rfl ?_
            exact ⟨by unfold rTl habRow; (repeat' split) <;> first | rfl | (exfalso; omega), rfl, rfl⟩
      · refine jJ_iload (pc := 33) dX7_tells_33 rfl ?_
        refine jJ_goto (pc := 35) (tgt := 40) dX7_tells_35 (by decide) ?_
        refine jJ_istore (pc := 40) (ls' := [_, _, _, _, _, _, _, _, _]) dX7_tells_40 (Nat.le_of_ble_eq_true rfl) rfl ?_
        refine jJ_iload (pc := 42) dX7_tells_42 rfl ?_
        refine jJ_if_ne (pc := 44) (tgt := 55) dX7_tells_44 (by decide) (fun c44 => ?_) (fun c44 => ?_)
        · refine jJ_iload (pc := 55) dX7_tells_55 rfl ?_
          refine jJ_iret (pc := 57) dX7_tells_57 rfl ?_
          exact ⟨by unfold rTl habRow; (repeat' split) <;> first | rfl | (exfalso; omega), rfl, rfl⟩
        · refine jJ_iload_n (pc := 47) dX7_tells_47 rfl ?_
          refine jJ_if_eq (pc := 48) (tgt := 55) dX7_tells_48 (by decide) (fun c48 => ?_) (fun c48 => ?_)
          · refine jJ_iload (pc := 55) dX7_tells_55 rfl ?_
            refine jJ_iret (pc := 57) dX7_tells_57 rfl ?_
            exact ⟨by unfold rTl habRow; (repeat' split) <;> first | rfl | (exfalso; omega), rfl, rfl⟩
          · refine jJ_iconst (pc := 51) dX7_tells_51 (by decide) ?_
            refine jJ_goto (pc := 52) (tgt := 57) dX7_tells_52 (by decide) ?_
            refine jJ_iret (pc := 57) dX7_tells_57 rfl ?_
            exact ⟨by unfold rTl habRow; (repeat' split) <;> first | rfl | (exfalso; omega), rfl, rfl⟩
  · refine jJ_iload_n (pc := 4) dX7_tells_4 rfl ?_
    refine jJ_iload_n (pc := 5) dX7_tells_5 rfl ?_
    refine jJ_ishr (pc := 6) dX7_tells_6 ?_
    refine jJ_iconst (pc := 7) dX7_tells_7 (by decide) ?_
    refine jJ_iand (pc := 8) dX7_tells_8 ?_
    refine jJ_iconst (pc := 9) dX7_tells_9 (by decide) ?_
    refine jJ_icmp_ne (pc := 10) (tgt := 18) dX7_tells_10 (by decide) (fun c10 => ?_) (fun c10 => ?_)
    · refine jJ_iload_n (pc := 18) dX7_tells_18 rfl ?_
      refine jJ_iconst (pc := 19) dX7_tells_19 (by decide) ?_
      refine jJ_icmp_le (pc := 20) (tgt := 38) dX7_tells_20 (by decide) (fun c20 => ?_) (fun c20 => ?_)
      · refine jJ_iload (pc := 38) dX7_tells_38 rfl ?_
        refine jJ_istore (pc := 40) (ls' := [_, _, _, _, _, _, _, _, _]) dX7_tells_40 (Nat.le_of_ble_eq_true rfl) rfl ?_
        refine jJ_iload (pc := 42) dX7_tells_42 rfl ?_
        refine jJ_if_ne (pc := 44) (tgt := 55) dX7_tells_44 (by decide) (fun c44 => ?_) (fun c44 => ?_)
        · refine jJ_iload (pc := 55) dX7_tells_55 rfl ?_
          refine jJ_iret (pc := 57) dX7_tells_57 rfl ?_
          exact ⟨by unfold rTl habRow; (repeat' split) <;> first | rfl | (exfalso; omega), rfl, rfl⟩
        · refine jJ_iload_n (pc := 47) dX7_tells_47 rfl ?_
          refine jJ_if_eq (pc := 48) (tgt := 55) dX7_tells_48 (by decide) (fun c48 => ?_) (fun c48 => ?_)
          · refine jJ_iload (pc := 55) dX7_tells_55 rfl ?_
            refine jJ_iret (pc := 57) dX7_tells_57 rfl ?_
            exact ⟨by unfold rTl habRow; (repeat' split) <;> first | rfl | (exfalso; omega), rfl, rfl⟩
          · refine jJ_iconst (pc := 51) dX7_tells_51 (by decide) ?_
            refine jJ_goto (pc := 52) (tgt := 57) dX7_tells_52 (by decide) ?_
            refine jJ_iret (pc := 57) dX7_tells_57 rfl ?_
            exact ⟨by unfold rTl habRow; (repeat' split) <;> first | rfl | (exfalso; omega), rfl, rfl⟩
      · refine jJ_iload_n (pc := 23) dX7_tells_23 rfl ?_
        refine jJ_iload (pc := 24) dX7_tells_24 rfl ?_
        refine jJ_ishr (pc := 26) dX7_tells_26 ?_
        refine jJ_iconst (pc := 27) dX7_tells_27 (by decide) ?_
        refine jJ_iand (pc := 28) dX7_tells_28 ?_
        refine jJ_iconst (pc := 29) dX7_tells_29 (by decide) ?_
        refine jJ_icmp_ne (pc := 30) (tgt := 38) dX7_tells_30 (by decide) (fun c30 => ?_) (fun c30 => ?_)
        · refine jJ_iload (pc := 38) dX7_tells_38 rfl ?_
          refine jJ_istore (pc := 40) (ls' := [_, _, _, _, _, _, _, _, _]) dX7_tells_40 (Nat.le_of_ble_eq_true rfl) rfl ?_
          refine jJ_iload (pc := 42) dX7_tells_42 rfl ?_
          refine jJ_if_ne (pc := 44) (tgt := 55) dX7_tells_44 (by decide) (fun c44 => ?_) (fun c44 => ?_)
          · refine jJ_iload (pc := 55) dX7_tells_55 rfl ?_
            refine jJ_iret (pc := 57) dX7_tells_57 rfl ?_
            exact ⟨by unfold rTl habRow; (repeat' split) <;> first | rfl | (exfalso; omega), rfl, rfl⟩
          · refine jJ_iload_n (pc := 47) dX7_tells_47 rfl ?_
            refine jJ_if_eq (pc := 48) (tgt := 55) dX7_tells_48 (by decide) (fun c48 => ?_) (fun c48 => ?_)
            · refine jJ_iload (pc := 55) dX7_tells_55 rfl ?_
              refine jJ_iret (pc := 57) dX7_tells_57 rfl ?_
              exact ⟨by unfold rTl habRow; (repeat' split) <;> first | rfl | (exfalso; omega), rfl, rfl⟩
            · refine jJ_iconst (pc := 51) dX7_tells_51 (by decide) ?_
              refine jJ_goto (pc := 52) (tgt := 57) dX7_tells_52 (by decide) ?_
              refine jJ_iret (pc := 57) dX7_tells_57 rfl ?_
              exact ⟨by unfold rTl habRow; (repeat' split) <;> first | rfl | (exfalso; omega), rfl, rfl⟩
        · refine jJ_iload (pc := 33) dX7_tells_33 rfl ?_
          refine jJ_goto (pc := 35) (tgt := 40) dX7_tells_35 (by decide) ?_
          refine jJ_istore (pc := 40) (ls' := [_, _, _, _, _, _, _, _, _]) dX7_tells_40 (Nat.le_of_ble_eq_true rfl) rfl ?_
          refine jJ_iload (pc := 42) dX7_tells_42 rfl ?_
          refine jJ_if_ne (pc := 44) (tgt := 55) dX7_tells_44 (by decide) (fun c44 => ?_) (fun c44 => ?_)
          · refine jJ_iload (pc := 55) dX7_tells_55 rfl ?_
            refine jJ_iret (pc := 57) dX7_tells_57 rfl ?_
            exact ⟨by unfold rTl habRow; (repeat' split) <;> first | rfl | (exfalso; omega), rfl, rfl⟩
          · refine jJ_iload_n (pc := 47) dX7_tells_47 rfl ?_
            refine jJ_if_eq (pc := 48) (tgt := 55) dX7_tells_48 (by decide) (fun c48 => ?_) (fun c48 => ?_)
            · refine jJ_iload (pc := 55) dX7_tells_55 rfl ?_
              refine jJ_iret (pc := 57) dX7_tells_57 rfl ?_
              exact ⟨by unfold rTl habRow; (repeat' split) <;> first | rfl | (exfalso; omega), rfl, rfl⟩
            · refine jJ_iconst (pc := 51) dX7_tells_51 (by decide) ?_
              refine jJ_goto (pc := 52) (tgt := 57) dX7_tells_52 (by decide) ?_
              refine jJ_iret (pc := 57) dX7_tells_57 rfl ?_
              exact ⟨by unfold rTl habRow; (repeat' split) <;> first | rfl | (exfalso; omega), rfl, rfl⟩
    · refine jJ_iload (pc := 13) dX7_tells_13 rfl ?_
      refine jJ_goto (pc := 15) (tgt := 40) dX7_tells_15 (by decide) ?_
      refine jJ_istore (pc := 40) (ls' := [_, _, _, _, _, _, _, _, _]) dX7_tells_40 (Nat.le_of_ble_eq_true rfl) rfl ?_
      refine jJ_iload (pc := 42) dX7_tells_42 rfl ?_
      refine jJ_if_ne (pc := 44) (tgt := 55) dX7_tells_44 (by decide) (fun c44 => ?_) (fun c44 => ?_)
      · refine jJ_iload (pc := 55) dX7_tells_55 rfl ?_
        refine jJ_iret (pc := 57) dX7_tells_57 rfl ?_
        exact ⟨by unfold rTl habRow; (repeat' split) <;> first | rfl | (exfalso; omega), rfl, rfl⟩
      · refine jJ_iload_n (pc := 47) dX7_tells_47 rfl ?_
        refine jJ_if_eq (pc := 48) (tgt := 55) dX7_tells_48 (by decide) (fun c48 => ?_) (fun c48 => ?_)
        · refine jJ_iload (pc := 55) dX7_tells_55 rfl ?_
          refine jJ_iret (pc := 57) dX7_tells_57 rfl ?_
          exact ⟨by unfold rTl habRow; (repeat' split) <;> first | rfl | (exfalso; omega), rfl, rfl⟩
        · refine jJ_iconst (pc := 51) dX7_tells_51 (by decide) ?_
          refine jJ_goto (pc := 52) (tgt := 57) dX7_tells_52 (by decide) ?_
          refine jJ_iret (pc := 57) dX7_tells_57 rfl ?_
          exact ⟨by unfold rTl habRow; (repeat' split) <;> first | rfl | (exfalso; omega), rfl, rfl⟩
theorem r_thrown (hR : RfL E P m a) : jC E yX7_thrown cX7_thrown 1 (some .int) d [jp m] I P (jD (some (ji (I m 0))) I P) := by
  refine jC_intro (by decide +kernel) (by simp [jc, va_rf, Value.category]) (Nat.le_of_ble_eq_true rfl) ?_
  refine jJ_aload_n (pc := 0) dX7_thrown_0 rfl ?_
  refine jJ_geti (pc := 1) dX7_thrown_1 fX7_78 rfl hR.1 ?_
  refine jJ_iret (pc := 4) dX7_thrown_4 rfl ?_
  exact ⟨rfl, rfl, rfl⟩
/-- the memory behind right() -/
def rgM (I : jI) (m : Nat) (b w : Int) : jI := if I m 0 = 0 ∧ b = 0 then jput I m 0 w else I
theorem r_right {b w : Int} (hR : RfL E P m a) : jC E yX7_right cX7_right 3 (some .boolean) d [jp m, ji b, ji w] I P (jD (some (ji (jb (rgM I m b w m 0 = 0)))) (rgM I m b w) P) := by
  refine jC_intro (by decide +kernel) (by simp [jc, va_rf, Value.category]) (Nat.le_of_ble_eq_true rfl) ?_
  refine jJ_aload_n (pc := 0) dX7_right_0 rfl ?_
  refine jJ_geti (pc := 1) dX7_right_1 fX7_78 rfl hR.1 ?_
  refine jJ_if_ne (pc := 4) (tgt := 16) dX7_right_4 (by decide) (fun c4 => ?_) (fun c4 => ?_)
  · refine jJ_aload_n (pc := 16) dX7_right_16 rfl ?_
    refine jJ_geti (pc := 17) dX7_right_17 fX7_78 rfl hR.1 ?_
    refine jJ_if_ne (pc := 20) (tgt := 27) dX7_right_20 (by decide) (fun c20 => ?_) (fun c20 => ?_)
    · refine jJ_iconst (pc := 27) dX7_right_27 (by decide) ?_
      refine jJ_zret (pc := 28) dX7_right_28 rfl (by decide) ?_
      refine ⟨?_, ?_, rfl⟩
      · unfold rgM; split <;> first | (exfalso; omega) | (simp_all [jb, jput_s])
      · unfold rgM; split <;> first | rfl | (exfalso; omega)
    · refine jJ_iconst (pc := 23) dX7_right_23 (by decide) ?_
      refine jJ_goto (pc := 24) (tgt := 28) dX7_right_24 (by decide) ?_
      refine jJ_zret (pc := 28) dX7_right_28 rfl (by decide) ?_
      refine ⟨?_, ?_, rfl⟩
      · unfold rgM; split <;> first | (exfalso; omega) | (simp_all [jb, jput_s])
      · unfold rgM; split <;> first | rfl | (exfalso; omega)
  · refine jJ_iload_n (pc := 7) dX7_right_7 rfl ?_
    refine jJ_if_ne (pc := 8) (tgt := 16) dX7_right_8 (by decide) (fun c8 => ?_) (fun c8 => ?_)
    · refine jJ_aload_n (pc := 16) dX7_right_16 rfl ?_
      refine jJ_geti (pc := 17) dX7_right_17 fX7_78 rfl hR.1 ?_
      refine jJ_if_ne (pc := 20) (tgt := 27) dX7_right_20 (by decide) (fun c20 => ?_) (fun c20 => ?_)
      · refine jJ_iconst (pc := 27) dX7_right_27 (by decide) ?_
        refine jJ_zret (pc := 28) dX7_right_28 rfl (by decide) ?_
        refine ⟨?_, ?_, rfl⟩
        · unfold rgM; split <;> first | (exfalso; omega) | (simp_all [jb, jput_s])
        · unfold rgM; split <;> first | rfl | (exfalso; omega)
      · refine jJ_iconst (pc := 23) dX7_right_23 (by decide) ?_
        refine jJ_goto (pc := 24) (tgt := 28) dX7_right_24 (by decide) ?_
        refine jJ_zret (pc := 28) dX7_right_28 rfl (by decide) ?_
        refine ⟨?_, ?_, rfl⟩
        · unfold rgM; split <;> first | (exfalso; omega) | (simp_all [jb, jput_s])
        · unfold rgM; split <;> first | rfl | (exfalso; omega)
    · refine jJ_aload_n (pc := 11) dX7_right_11 rfl ?_
      refine jJ_iload_n (pc := 12) dX7_right_12 rfl ?_
      refine jJ_puti (pc := 13) dX7_right_13 fX7_78w rfl ⟨rfl, rfl⟩ hR.1 ?_
      refine jJ_aload_n (pc := 16) dX7_right_16 rfl ?_
      refine jJ_geti (pc := 17) dX7_right_17 fX7_78 rfl hR.1 ?_
      refine jJ_if_ne (pc := 20) (tgt := 27) dX7_right_20 (by decide) (fun c20 => ?_) (fun c20 => ?_)
      · refine jJ_iconst (pc := 27) dX7_right_27 (by decide) ?_
        refine jJ_zret (pc := 28) dX7_right_28 rfl (by decide) ?_
        refine ⟨?_, ?_, rfl⟩
        · unfold rgM; split <;> first | (exfalso; omega) | (simp_all [jb, jput_s])
        · unfold rgM; split <;> first | rfl | (exfalso; omega)
      · refine jJ_iconst (pc := 23) dX7_right_23 (by decide) ?_
        refine jJ_goto (pc := 24) (tgt := 28) dX7_right_24 (by decide) ?_
        refine jJ_zret (pc := 28) dX7_right_28 rfl (by decide) ?_
        refine ⟨?_, ?_, rfl⟩
        · unfold rgM; split <;> first | (exfalso; omega) | (simp_all [jb, jput_s])
        · unfold rgM; split <;> first | rfl | (exfalso; omega)
/-- a fault is kept, if none was -/
def wrM (I : jI) (m : Nat) (k : Int) : jI := if I m 3 = 0 then jput (jput I m 3 k) m 4 (I m 23) else I
theorem r_wrong {k : Int} (hR : RfL E P m a) : jC E yX7_wrong cX7_wrong 2 (some .boolean) d [jp m, ji k] I P (jD (some (ji 0)) (wrM I m k) P) := by
  refine jC_intro (by decide +kernel) (by simp [jc, va_rf, Value.category]) (Nat.le_of_ble_eq_true rfl) ?_
  refine jJ_aload_n (pc := 0) dX7_wrong_0 rfl ?_
  refine jJ_geti (pc := 1) dX7_wrong_1 fX7_119 rfl hR.1 ?_
  refine jJ_if_ne (pc := 4) (tgt := 20) dX7_wrong_4 (by decide) (fun c4 => ?_) (fun c4 => ?_)
  · refine jJ_iconst (pc := 20) dX7_wrong_20 (by decide) ?_
    refine jJ_zret (pc := 21) dX7_wrong_21 rfl (by decide) ?_
    refine ⟨rfl, ?_, rfl⟩
    unfold wrM; split <;> first | rfl | (exfalso; omega) | (rw [jput_k _ (by decide)])
  · refine jJ_aload_n (pc := 7) dX7_wrong_7 rfl ?_
    refine jJ_iload_n (pc := 8) dX7_wrong_8 rfl ?_
    refine jJ_puti (pc := 9) dX7_wrong_9 fX7_119w rfl ⟨rfl, rfl⟩ hR.1 ?_
    refine jJ_aload_n (pc := 12) dX7_wrong_12 rfl ?_
    refine jJ_aload_n (pc := 13) dX7_wrong_13 rfl ?_
    refine jJ_geti (pc := 14) dX7_wrong_14 fX7_91 rfl hR.1 ?_
    refine jJ_puti (pc := 17) dX7_wrong_17 fX7_13w rfl ⟨rfl, rfl⟩ hR.1 ?_
    refine jJ_iconst (pc := 20) dX7_wrong_20 (by decide) ?_
    refine jJ_zret (pc := 21) dX7_wrong_21 rfl (by decide) ?_
    refine ⟨rfl, ?_, rfl⟩
    unfold wrM; split <;> first | rfl | (exfalso; omega) | (rw [jput_k _ (by decide)])
theorem r_none (hR : RfL E P m a) : jC E yX7_none cX7_none 1 (some .int) d [jp m] I P (jD (some (ji (-1))) (jput (jput I m 20 0) m 21 (-1)) P) := by
  refine jC_intro (by decide +kernel) (by simp [jc, va_rf, Value.category]) (Nat.le_of_ble_eq_true rfl) ?_
  refine jJ_aload_n (pc := 0) dX7_none_0 rfl ?_
  refine jJ_iconst (pc := 1) dX7_none_1 (by decide) ?_
  refine jJ_puti (pc := 2) dX7_none_2 fX7_264w rfl ⟨rfl, rfl⟩ hR.1 ?_
  refine jJ_aload_n (pc := 5) dX7_none_5 rfl ?_
  refine jJ_iconst (pc := 6) dX7_none_6 (by decide) ?_
  refine jJ_puti (pc := 7) dX7_none_7 fX7_60w rfl ⟨rfl, rfl⟩ hR.1 ?_
  refine jJ_iconst (pc := 10) dX7_none_10 (by decide) ?_
  refine jJ_iret (pc := 11) dX7_none_11 rfl ?_
  exact ⟨rfl, rfl, rfl⟩
def rBy (I : jI) (a : Nat → Nat) (t k : Int) : Int := if k < I (a 7) t.toNat then I (a 6) (800 * t + k).toNat else 0
theorem r_byteAt {t k : Int} (hR : RfL E P m a) (ht : 0 ≤ t ∧ t ≤ 12) (hk : 0 ≤ k) (hn : I (a 7) t.toNat ≤ 800) : jC E yX7_byteAt cX7_byteAt 3 (some .int) d [jp m, ji t, ji k] I P (jD (some (ji (rBy I a t k))) I P) := by
  refine jC_intro (by decide +kernel) (by simp [jc, va_rf, Value.category]) (Nat.le_of_ble_eq_true rfl) ?_
  refine jJ_iload_n (pc := 0) dX7_byteAt_0 rfl ?_
  refine jJ_aload_n (pc := 1) dX7_byteAt_1 rfl ?_
  refine jJ_getr (pc := 2) dX7_byteAt_2 fX7_24 rfl hR.1 hR.p7 ?_
  refine jJ_iload_n (pc := 5) dX7_byteAt_5 rfl ?_
  refine jJ_iald (pc := 6) dX7_byteAt_6 hR.a7 ⟨by omega, by omega⟩ ?_
  refine jJ_icmp_ge (pc := 7) (tgt := 25) dX7_byteAt_7 (by decide) (fun c7 => ?_) (fun c7 => ?_)
  · refine jJ_iconst (pc := 25) dX7_byteAt_25 (by decide) ?_
    refine jJ_iret (pc := 26) dX7_byteAt_26 rfl ?_
    exact ⟨by unfold rBy; split <;> first | rfl | (exfalso; omega), rfl, rfl⟩
  · refine jJ_aload_n (pc := 10) dX7_byteAt_10 rfl ?_
    refine jJ_getr (pc := 11) dX7_byteAt_11 fX7_21 rfl hR.1 hR.p6 ?_
    refine jJ_sipush (pc := 14) dX7_byteAt_14 (by decide) ?_
    refine jJ_iload_n (pc := 17) dX7_byteAt_17 rfl ?_
    refine jJ_imul (pc := 18) dX7_byteAt_18 ⟨by omega, by omega⟩ ?_
    refine jJ_iload_n (pc := 19) dX7_byteAt_19 rfl ?_
    refine jJ_iadd (pc := 20) dX7_byteAt_20 ⟨by omega, by omega⟩ ?_
    refine jJ_iald (pc := 21) dX7_byteAt_21 hR.a6 ⟨by omega, by omega⟩ ?_
    refine jJ_goto (pc := 22) (tgt := 26) dX7_byteAt_22 (by decide) ?_
    refine jJ_iret (pc := 26) dX7_byteAt_26 rfl ?_
    exact ⟨by unfold rBy; split <;> first | rfl | (exfalso; omega), rfl, rfl⟩
/-- what isThere() does -/
def thM (I : jI) (m : Nat) (a : Nat → Nat) (t : Int) : jI := jput I m 0 (if 0 ≤ t ∧ t < 12 ∧ I (a 5) t.toNat ≠ 0 then 0 else 1)
theorem rgM_0 {I : jI} {m : Nat} {b w : Int} (hb : b = 0 ∨ b = 1) : rgM (jput I m 0 0) m b w = jput I m 0 (if b = 0 then w else 0) := by
  unfold rgM
  rw [jput_s]
  rcases hb with rfl | rfl
  · simp
    funext b j
    simp only [jput]
    split <;> rfl
  · simp
theorem r_isThere {t : Int} (hR : RfL E P m a) (hd : 1 ≤ d) : jC E yX7_isThere cX7_isThere 2 (some .boolean) d [jp m, ji t] I P (jD (some (ji (jb (0 ≤ t ∧ t < 12 ∧ I (a 5) t.toNat ≠ 0)))) (thM I m a t) P) := by
  have n5 := hR.n5
  refine jC_intro (by decide +kernel) (by simp [jc, va_rf, Value.category]) (Nat.le_of_ble_eq_true rfl) ?_
  refine jJ_aload_n (pc := 0) dX7_isThere_0 rfl ?_
  refine jJ_iconst (pc := 1) dX7_isThere_1 (by decide) ?_
  refine jJ_puti (pc := 2) dX7_isThere_2 fX7_78w rfl ⟨rfl, rfl⟩ hR.1 ?_
  refine jJ_aload_n (pc := 5) dX7_isThere_5 rfl ?_
  refine jJ_iload_n (pc := 6) dX7_isThere_6 rfl ?_
  refine jJ_callSd (pc := 7) (as := [_]) dX7_isThere_7 mX7_205 (Nat.le_of_ble_eq_true rfl) (jRm_ok (by omega) (by decide)) (r_isNumber (d := d - 1)) ?_
  have fin : ∀ b : Int, (b = 0 ∨ b = 1) → (b = 0 ↔ ¬ (0 ≤ t ∧ t < 12 ∧ I (a 5) t.toNat ≠ 0)) → jJ E yX7_isThere.cls cX7_isThere 2 (some .boolean) (jRm d) (jZ E (jD (some (ji (jb (0 ≤ t ∧ t < 12 ∧ I (a 5) t.toNat ≠ 0)))) (thM I m a t) P)) 0 0 27 [some (jp m), some (ji t)] [ji b, jp m] (jput I m 0 0) P := by
    intro b hb hbt
    refine jJ_iconst (pc := 27) dX7_isThere_27 (by decide) ?_
    refine jJ_callVd (pc := 28) (as := [_, _]) dX7_isThere_28 mX7_208 (jRcv_of hR.1 rfl rfl) (Nat.le_of_ble_eq_true rfl) (jRm_ok (by omega) (by decide)) (r_right (d := d - 1) hR) ?_
    rw [rgM_0 hb, jput_s]
    refine jJ_zret (pc := 31) dX7_isThere_31 rfl jb_01 ?_
    by_cases hc : 0 ≤ t ∧ t < 12 ∧ I (a 5) t.toNat ≠ 0
    · have hb0 : b ≠ 0 := fun z => (hbt.mp z) hc
      exact ⟨by rw [if_neg hb0, ← jb_t rfl, ← jb_t hc], by rw [thM, if_pos hc, if_neg hb0], rfl⟩
    · have hb0 : b = 0 := hbt.mpr hc
      exact ⟨by rw [if_pos hb0, ← jb_f (by decide), ← jb_f hc], by rw [thM, if_neg hc, if_pos hb0], rfl⟩
  refine jJ_if_eq (pc := 10) (tgt := 26) dX7_isThere_10 (by decide) (fun c10 => ?_) (fun c10 => ?_)
  · simp only [jb_z] at c10
    refine jJ_iconst (pc := 26) dX7_isThere_26 (by decide) ?_
    exact fin 0 (Or.inl rfl) ⟨fun _ z => c10 ⟨z.1, z.2.1⟩, fun _ => rfl⟩
  · simp only [jb_nz] at c10
    refine jJ_aload_n (pc := 13) dX7_isThere_13 rfl ?_
    refine jJ_getr (pc := 14) dX7_isThere_14 fX7_17 rfl hR.1 hR.p5 ?_
    refine jJ_iload_n (pc := 17) dX7_isThere_17 rfl ?_
    refine jJ_zald (pc := 18) dX7_isThere_18 hR.a5 ⟨by omega, by omega⟩ ?_
    rw [jput_a _ n5]
    refine jJ_if_eq (pc := 19) (tgt := 26) dX7_isThere_19 (by decide) (fun c19 => ?_) (fun c19 => ?_)
    · refine jJ_iconst (pc := 26) dX7_isThere_26 (by decide) ?_
      exact fin 0 (Or.inl rfl) ⟨fun _ z => z.2.2 c19, fun _ => rfl⟩
    · refine jJ_iconst (pc := 22) dX7_isThere_22 (by decide) ?_
      refine jJ_goto (pc := 23) (tgt := 27) dX7_isThere_23 (by decide) ?_
      exact fin 1 (Or.inr rfl) ⟨fun z => absurd z (by decide), fun z => absurd ⟨c10.1, c10.2, c19⟩ z⟩
end JRef0
