section JFeed
variable {E : jE} {I : jI} {P : jP} {d : Nat} {h tp : Nat}
/-- the four bytes of a number, the highest first -/
def fourB (v : Int) : List Int := [jB (jShr v 24), jB (jShr v 16), jB (jShr v 8), jB (jShr v 0)]
theorem tape_step {Z : Code → List Frame → Array Value → State → State → Prop} {v sh : Int} {w : List Int × Int} (h0 : jK E 6 h) (p0 : P h 0 = some tp) (a0 : jAr E 8 tp 800) (hl : w.1.length < 800) (hs : 0 ≤ sh ∧ sh ≤ 100)
    (kk : jJ E yX6_tapeNumber.cls cX6_tapeNumber 3 none (jRm d) Z 0 0 3 [some (jp h), some (ji v), some (ji (sh - 8))] [] (outM I h tp (w.1 ++ [jB (jShr v sh)], w.2)) P) :
    jJ E yX6_tapeNumber.cls cX6_tapeNumber 3 none (jRm d) Z 0 0 3 [some (jp h), some (ji v), some (ji sh)] [] (outM I h tp w) P := by
  have hne : h ≠ tp := jne h0.2 a0.2.1 (by decide)
  refine jJ_iload_n (pc := 3) dX6_tapeNumber_3 rfl ?_
  refine jJ_if_lt (pc := 4) (tgt := 48) dX6_tapeNumber_4 (by decide) (fun c4 => ?_) (fun c4 => ?_)
  · exfalso
    omega
  · refine jJ_aload_n (pc := 7) dX6_tapeNumber_7 rfl ?_
    refine jJ_geti (pc := 8) dX6_tapeNumber_8 fX6_79 rfl (by assumption) ?_
    rw [outM_1]
    refine jJ_aload_n (pc := 11) dX6_tapeNumber_11 rfl ?_
    refine jJ_getr (pc := 12) dX6_tapeNumber_12 fX6_9 rfl (by assumption) (by assumption) ?_
    refine jJ_alen (pc := 15) (t0 := 0) dX6_tapeNumber_15 (by assumption) rfl (by decide) (by decide) (by decide) ?_
    refine jJ_icmp_ge (pc := 16) (tgt := 42) dX6_tapeNumber_16 (by decide) (fun c16 => ?_) (fun c16 => ?_)
    · exfalso
      omega
    · refine jJ_aload_n (pc := 19) dX6_tapeNumber_19 rfl ?_
      refine jJ_getr (pc := 20) dX6_tapeNumber_20 fX6_9 rfl (by assumption) (by assumption) ?_
      refine jJ_aload_n (pc := 23) dX6_tapeNumber_23 rfl ?_
      refine jJ_geti (pc := 24) dX6_tapeNumber_24 fX6_79 rfl (by assumption) ?_
      rw [outM_1]
      refine jJ_iload_n (pc := 27) dX6_tapeNumber_27 rfl ?_
      refine jJ_iload_n (pc := 28) dX6_tapeNumber_28 rfl ?_
      refine jJ_ishr (pc := 29) dX6_tapeNumber_29 ?_
      refine jJ_i2b (pc := 30) dX6_tapeNumber_30 ?_
      refine jJ_bast (pc := 31) dX6_tapeNumber_31 (by assumption) ⟨by omega, by omega⟩ ?_
      rw [Int.toNat_natCast, jB_jB]
      refine jJ_aload_n (pc := 32) dX6_tapeNumber_32 rfl ?_
      refine jJ_dup (pc := 33) dX6_tapeNumber_33 rfl ?_
      refine jJ_geti (pc := 34) dX6_tapeNumber_34 fX6_79 rfl (by assumption) ?_
      rw [jput_a (outM I h tp w) hne, outM_1]
      refine jJ_iconst (pc := 37) dX6_tapeNumber_37 (by decide) ?_
      refine jJ_iadd (pc := 38) dX6_tapeNumber_38 ⟨by omega, by omega⟩ ?_
      refine jJ_puti (pc := 39) dX6_tapeNumber_39 fX6_79w rfl ⟨rfl, rfl⟩ (by assumption) ?_
      rw [outM_app I w _ hne]
      refine jJ_iinc (pc := 42) (ls' := [_, _, _]) dX6_tapeNumber_42 rfl ⟨by omega, by omega⟩ rfl ?_
      refine jJ_goto (pc := 45) (tgt := 3) dX6_tapeNumber_45 (by decide) ?_
      rw [show sh + (-8) = sh - 8 by omega]
      exact kk
theorem c_tapeNumber {v : Int} {w : List Int × Int} (h0 : jK E 6 h) (p0 : P h 0 = some tp) (a0 : jAr E 8 tp 800) (hl : w.1.length + 4 ≤ 800) : jC E yX6_tapeNumber cX6_tapeNumber 3 none d [jp h, ji v] (outM I h tp w) P (jD none (outM I h tp (w.1 ++ fourB v, w.2)) P) := by
  refine jC_intro (by decide +kernel) (by simp [jc, va_rf, Value.category]) (Nat.le_of_ble_eq_true rfl) ?_
  refine jJ_bipush (pc := 0) dX6_tapeNumber_0 (by decide) ?_
  refine jJ_istore_n (pc := 2) (ls' := [_, _, _]) dX6_tapeNumber_2 (Nat.le_of_ble_eq_true rfl) rfl ?_
  refine tape_step h0 p0 a0 (by omega) ⟨by decide, by decide⟩ ?_
  refine tape_step h0 p0 a0 (by simp; omega) ⟨by decide, by decide⟩ ?_
  refine tape_step h0 p0 a0 (by simp; omega) ⟨by decide, by decide⟩ ?_
  refine tape_step h0 p0 a0 (by simp; omega) ⟨by decide, by decide⟩ ?_
  refine jJ_iload_n (pc := 3) dX6_tapeNumber_3 rfl ?_
  refine jJ_if_lt (pc := 4) (tgt := 48) dX6_tapeNumber_4 (by decide) (fun c4 => ?_) (fun c4 => ?_)
  · refine jJ_vret (pc := 48) dX6_tapeNumber_48 rfl ?_
    exact ⟨rfl, by simp [fourB], rfl⟩
  · exact absurd c4 (by decide)
def fedB (a b c e f : Int) : List Int := fourB a ++ fourB b ++ fourB c ++ fourB e ++ fourB f
theorem fourB_len (v : Int) : (fourB v).length = 4 := rfl
theorem c_feed {a b c e f : Int} {w : List Int × Int} (h0 : jK E 6 h) (p0 : P h 0 = some tp) (a0 : jAr E 8 tp 800) (hl : w.1.length ≤ 800) (hd : 1 ≤ d) : jC E yX6_feed cX6_feed 6 (some .int) d [jp h, ji a, ji b, ji c, ji e, ji f] (outM I h tp w) P
    (jD (some (ji (if 800 < (w.1.length : Int) + 20 then -1 else (w.1.length : Int) + 20))) (outM I h tp (if 800 < (w.1.length : Int) + 20 then w else (w.1 ++ fedB a b c e f, w.2))) P) := by
  refine jC_intro (by decide +kernel) (by simp [jc, va_rf, Value.category]) (Nat.le_of_ble_eq_true rfl) ?_
  refine jJ_aload_n (pc := 0) dX6_feed_0 rfl ?_
  refine jJ_geti (pc := 1) dX6_feed_1 fX6_79 rfl (by assumption) ?_
  rw [outM_1]
  refine jJ_bipush (pc := 4) dX6_feed_4 (by decide) ?_
  refine jJ_iadd (pc := 6) dX6_feed_6 ⟨by omega, by omega⟩ ?_
  refine jJ_sipush (pc := 7) dX6_feed_7 (by decide) ?_
  refine jJ_icmp_le (pc := 10) (tgt := 15) dX6_feed_10 (by decide) (fun c10 => ?_) (fun c10 => ?_)
  · rw [if_neg (by omega), if_neg (by omega)]
    refine jJ_aload_n (pc := 15) dX6_feed_15 rfl ?_
    refine jJ_iload_n (pc := 16) dX6_feed_16 rfl ?_
    refine jJ_callVd (pc := 17) (as := [_]) dX6_feed_17 mX6_82 (jRcv_of (by assumption) rfl rfl) (Nat.le_of_ble_eq_true rfl) (jRm_ok (by omega) (by decide)) (c_tapeNumber (d := d - 1) h0 p0 a0 (by omega)) ?_
    refine jJ_aload_n (pc := 20) dX6_feed_20 rfl ?_
    refine jJ_iload_n (pc := 21) dX6_feed_21 rfl ?_
    refine jJ_callVd (pc := 22) (as := [_]) dX6_feed_22 mX6_82 (jRcv_of (by assumption) rfl rfl) (Nat.le_of_ble_eq_true rfl) (jRm_ok (by omega) (by decide)) (c_tapeNumber (d := d - 1) h0 p0 a0 (by simp [fourB_len]; omega)) ?_
    refine jJ_aload_n (pc := 25) dX6_feed_25 rfl ?_
    refine jJ_iload_n (pc := 26) dX6_feed_26 rfl ?_
    refine jJ_callVd (pc := 27) (as := [_]) dX6_feed_27 mX6_82 (jRcv_of (by assumption) rfl rfl) (Nat.le_of_ble_eq_true rfl) (jRm_ok (by omega) (by decide)) (c_tapeNumber (d := d - 1) h0 p0 a0 (by simp [fourB_len]; omega)) ?_
    refine jJ_aload_n (pc := 30) dX6_feed_30 rfl ?_
    refine jJ_iload (pc := 31) dX6_feed_31 rfl ?_
    refine jJ_callVd (pc := 33) (as := [_]) dX6_feed_33 mX6_82 (jRcv_of (by assumption) rfl rfl) (Nat.le_of_ble_eq_true rfl) (jRm_ok (by omega) (by decide)) (c_tapeNumber (d := d - 1) h0 p0 a0 (by simp [fourB_len]; omega)) ?_
    refine jJ_aload_n (pc := 36) dX6_feed_36 rfl ?_
    refine jJ_iload (pc := 37) dX6_feed_37 rfl ?_
    refine jJ_callVd (pc := 39) (as := [_]) dX6_feed_39 mX6_82 (jRcv_of (by assumption) rfl rfl) (Nat.le_of_ble_eq_true rfl) (jRm_ok (by omega) (by decide)) (c_tapeNumber (d := d - 1) h0 p0 a0 (by simp [fourB_len]; omega)) ?_
    refine jJ_aload_n (pc := 42) dX6_feed_42 rfl ?_
    refine jJ_geti (pc := 43) dX6_feed_43 fX6_79 rfl (by assumption) ?_
    rw [outM_1]
    refine jJ_iret (pc := 46) dX6_feed_46 rfl ?_
    refine ⟨?_, by simp [fedB], rfl⟩
    simp [fourB_len]
  · rw [if_pos (by omega), if_pos (by omega)]
    refine jJ_iconst (pc := 13) dX6_feed_13 (by decide) ?_
    refine jJ_iret (pc := 14) dX6_feed_14 rfl ?_
    exact ⟨rfl, rfl, rfl⟩
theorem c_forgetOutOf {t : Int} (h0 : jK E 6 h) : jC E yX6_forgetOutOf cX6_forgetOutOf 2 none d [jp h, ji t] I P (jD none (if I h 13 = t then jput I h 13 (-1) else I) P) := by
  refine jC_intro (by decide +kernel) (by simp [jc, va_rf, Value.category]) (Nat.le_of_ble_eq_true rfl) ?_
  refine jJ_aload_n (pc := 0) dX6_forgetOutOf_0 rfl ?_
  refine jJ_geti (pc := 1) dX6_forgetOutOf_1 fX6_60 rfl (by assumption) ?_
  refine jJ_iload_n (pc := 4) dX6_forgetOutOf_4 rfl ?_
  refine jJ_icmp_ne (pc := 5) (tgt := 13) dX6_forgetOutOf_5 (by decide) (fun c5 => ?_) (fun c5 => ?_)
  · refine jJ_vret (pc := 13) dX6_forgetOutOf_13 rfl ?_
    exact ⟨rfl, by split <;> first | rfl | (exfalso; omega), rfl⟩
  · refine jJ_aload_n (pc := 8) dX6_forgetOutOf_8 rfl ?_
    refine jJ_iconst (pc := 9) dX6_forgetOutOf_9 (by decide) ?_
    refine jJ_puti (pc := 10) dX6_forgetOutOf_10 fX6_60w rfl ⟨rfl, rfl⟩ (by assumption) ?_
    refine jJ_vret (pc := 13) dX6_forgetOutOf_13 rfl ?_
    exact ⟨rfl, by split <;> first | rfl | (exfalso; omega), rfl⟩
theorem c_clearOut {o r : Nat} (h0 : jK E 6 h) (p12 : P h 12 = some o) (ho : jK E 2 o) (hd : 1 ≤ d) : jC E yX6_clearOut cX6_clearOut 1 none d [jp h] I P (jD none (jput (outM I o r ([], 0)) h 13 (-1)) P) := by
  refine jC_intro (by decide +kernel) (by simp [jc, va_rf, Value.category]) (Nat.le_of_ble_eq_true rfl) ?_
  refine jJ_aload_n (pc := 0) dX6_clearOut_0 rfl ?_
  refine jJ_getr (pc := 1) dX6_clearOut_1 fX6_56 rfl (by assumption) (by assumption) ?_
  refine jJ_callVd (pc := 4) (as := []) dX6_clearOut_4 mX6_216 (jRcv_of (by assumption) rfl rfl) (Nat.le_of_ble_eq_true rfl) (jRm_ok (by omega) (by decide)) (c_Out_clear (r := r) (d := d - 1) ho) ?_
  refine jJ_aload_n (pc := 7) dX6_clearOut_7 rfl ?_
  refine jJ_iconst (pc := 8) dX6_clearOut_8 (by decide) ?_
  refine jJ_puti (pc := 9) dX6_clearOut_9 fX6_60w rfl ⟨rfl, rfl⟩ (by assumption) ?_
  refine jJ_vret (pc := 12) dX6_clearOut_12 rfl ?_
  exact ⟨rfl, rfl, rfl⟩
/-- what THE STYLE tells at a gap -/
def tolV (I : jI) (x : Nat) (q : Nat → Nat) (hb : Nat → Nat) (g : Nat) : Int := kepA (I (q 6) g) (habRow (I (hb (I (q 6) g).toNat) 0) (I (hb (I (q 6) g).toNat) 1) (I (hb (I (q 6) g).toNat) 2) (I (hb (I (q 6) g).toNat) 3) (I (hb (I (q 6) g).toNat) 4) (I (hb (I (q 6) g).toNat) 5) (tstV (I (q 5) g) (I x 10) (I (q 4) (g + 1))))
theorem c_toldAt {x sy g : Nat} {q hb : Nat → Nat} (h0 : jK E 6 h) (p10 : P h 10 = some sy) (asy : jAr E 11 sy 16) (psy : ∀ k, k < 16 → P sy k = some (hb k) ∧ jK E 0 (hb k)) (hx : TxL E P x q) (hg : g + 1 < 200) (hk : 0 ≤ I (q 6) g ∧ I (q 6) g ≤ 15) (hw : 0 ≤ I (q 5) g ∧ I (q 5) g ≤ 3) (hh : 0 ≤ I x 10 ∧ I x 10 ≤ 3) (hd : 2 ≤ d) :
    jC E yX6_toldAt cX6_toldAt 4 (some .int) d [jp h, jp x, ji (g : Int)] I P (jD (some (ji (tolV I x q hb g))) I P) := by
  have hx0 := hx
  obtain ⟨g0, ⟨p0, p1, p2, p3, p4, p5, p6, p7⟩, ⟨a0, a1, a2, a3, a4, a5, a6, a7⟩⟩ := hx
  obtain ⟨py, ky⟩ := psy (I (q 6) g).toNat (by omega)
  refine jC_intro (by decide +kernel) (by simp [jc, va_rf, Value.category]) (Nat.le_of_ble_eq_true rfl) ?_
  refine jJ_aload_n (pc := 0) dX6_toldAt_0 rfl ?_
  refine jJ_getr (pc := 1) dX6_toldAt_1 fX6_144 rfl (by assumption) (by assumption) ?_
  refine jJ_iload_n (pc := 4) dX6_toldAt_4 rfl ?_
  refine jJ_iald (pc := 5) dX6_toldAt_5 a6 ⟨by omega, by omega⟩ ?_
  rw [Int.toNat_natCast]
  refine jJ_istore_n (pc := 6) (ls' := [_, _, _, _]) dX6_toldAt_6 (Nat.le_of_ble_eq_true rfl) rfl ?_
  refine jJ_aload_n (pc := 7) dX6_toldAt_7 rfl ?_
  refine jJ_getr (pc := 8) dX6_toldAt_8 fX6_49 rfl (by assumption) (by first | exact p10 | exact py) ?_
  refine jJ_iload_n (pc := 11) dX6_toldAt_11 rfl ?_
  refine jJ_aald (pc := 12) (t0 := 3) dX6_toldAt_12 asy rfl (by decide) ⟨by omega, by omega⟩ (by first | exact p10 | exact py) ?_
  refine jJ_iload_n (pc := 13) dX6_toldAt_13 rfl ?_
  refine jJ_aload_n (pc := 14) dX6_toldAt_14 rfl ?_
  refine jJ_iload_n (pc := 15) dX6_toldAt_15 rfl ?_
  refine jJ_callVd (pc := 16) (as := [_]) dX6_toldAt_16 mX6_153 (jRcv_of (by assumption) rfl rfl) (Nat.le_of_ble_eq_true rfl) (jRm_ok (by omega) (by decide)) (c_Text_testsAt (d := d - 1) hx0 hg hw hh) ?_
  refine jJ_callVd (pc := 19) (as := [_, _]) dX6_toldAt_19 mX6_191 (jRcv_of (by assumption) rfl rfl) (Nat.le_of_ble_eq_true rfl) (jRm_ok (by omega) (by decide)) (c_Habit_tells (d := d - 1) ky (by omega)) ?_
  refine jJ_iret (pc := 22) dX6_toldAt_22 rfl ?_
  exact ⟨rfl, rfl, rfl⟩
end JFeed
