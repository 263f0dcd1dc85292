section JTally
variable {E : jE} {I : jI} {P : jP} {d : Nat}
theorem c_Habit_tell {a : Nat} {w : Int} (ha : jK E 0 a) : jC E yX0_tell cX0_tell 2 (some .int) d [jp a, ji w] I P (jD (some (ji (habTell I a w))) I P) := by
  refine jC_intro (by decide +kernel) (by simp [jc, va_rf, Value.category]) (Nat.le_of_ble_eq_true rfl) ?_
  refine jJ_iload_n (pc := 0) dX0_tell_0 rfl ?_
  by_cases h : 0 ≤ w ∧ w ≤ 6
  · have h7 : w = 0 ∨ w = 1 ∨ w = 2 ∨ w = 3 ∨ w = 4 ∨ w = 5 ∨ w = 6 := by omega
    rcases h7 with rfl | rfl | rfl | rfl | rfl | rfl | rfl
    · refine jJ_tableIn (pc := 1) (tgt := 44) dX0_tell_1 (by decide) rfl (by decide) ?_
      refine jJ_aload_n (pc := 44) dX0_tell_44 rfl ?_
      refine jJ_geti (pc := 45) dX0_tell_45 fX0_24 rfl (by assumption) ?_
      refine jJ_iret (pc := 48) dX0_tell_48 rfl ?_
      exact ⟨rfl, rfl, rfl⟩
    · refine jJ_tableIn (pc := 1) (tgt := 49) dX0_tell_1 (by decide) rfl (by decide) ?_
      refine jJ_aload_n (pc := 49) dX0_tell_49 rfl ?_
      refine jJ_geti (pc := 50) dX0_tell_50 fX0_9 rfl (by assumption) ?_
      refine jJ_iret (pc := 53) dX0_tell_53 rfl ?_
      exact ⟨rfl, rfl, rfl⟩
    · refine jJ_tableIn (pc := 1) (tgt := 54) dX0_tell_1 (by decide) rfl (by decide) ?_
      refine jJ_aload_n (pc := 54) dX0_tell_54 rfl ?_
      refine jJ_geti (pc := 55) dX0_tell_55 fX0_15 rfl (by assumption) ?_
      refine jJ_iret (pc := 58) dX0_tell_58 rfl ?_
      exact ⟨rfl, rfl, rfl⟩
    · refine jJ_tableIn (pc := 1) (tgt := 59) dX0_tell_1 (by decide) rfl (by decide) ?_
      refine jJ_aload_n (pc := 59) dX0_tell_59 rfl ?_
      refine jJ_geti (pc := 60) dX0_tell_60 fX0_18 rfl (by assumption) ?_
      refine jJ_iret (pc := 63) dX0_tell_63 rfl ?_
      exact ⟨rfl, rfl, rfl⟩
    · refine jJ_tableIn (pc := 1) (tgt := 64) dX0_tell_1 (by decide) rfl (by decide) ?_
      refine jJ_aload_n (pc := 64) dX0_tell_64 rfl ?_
      refine jJ_geti (pc := 65) dX0_tell_65 fX0_21 rfl (by assumption) ?_
      refine jJ_iret (pc := 68) dX0_tell_68 rfl ?_
      exact ⟨rfl, rfl, rfl⟩
    · refine jJ_tableIn (pc := 1) (tgt := 69) dX0_tell_1 (by decide) rfl (by decide) ?_
      refine jJ_aload_n (pc := 69) dX0_tell_69 rfl ?_
      refine jJ_geti (pc := 70) dX0_tell_70 fX0_27 rfl (by assumption) ?_
      refine jJ_iret (pc := 73) dX0_tell_73 rfl ?_
      exact ⟨rfl, rfl, rfl⟩
    · refine jJ_tableIn (pc := 1) (tgt := 74) dX0_tell_1 (by decide) rfl (by decide) ?_
      refine jJ_aload_n (pc := 74) dX0_tell_74 rfl ?_
      refine jJ_geti (pc := 75) dX0_tell_75 fX0_30 rfl (by assumption) ?_
      refine jJ_iret (pc := 78) dX0_tell_78 rfl ?_
      exact ⟨rfl, rfl, rfl⟩
  · refine jJ_tableOut (pc := 1) (tgt := 79) dX0_tell_1 (by omega) (by decide) ?_
    refine jJ_aload_n (pc := 79) dX0_tell_79 rfl ?_
    refine jJ_geti (pc := 80) dX0_tell_80 fX0_33 rfl (by assumption) ?_
    refine jJ_iret (pc := 83) dX0_tell_83 rfl ?_
    exact ⟨by unfold habTell; (repeat' split) <;> first | rfl | (exfalso; omega), rfl, rfl⟩
/-! Arrays.fill of a row of numbers -/
def filM (I : jI) (a n : Nat) (v : Int) : jI := fun b k => if b = a ∧ k < n then v else I b k
theorem filM_s {I : jI} {a n : Nat} {v : Int} : jput (filM I a n v) a n v = filM I a (n + 1) v := by
  funext b k
  simp only [jput, filM]
  by_cases hb : b = a
  · subst hb
    by_cases hk : k = n
    · subst hk; simp
    · by_cases h2 : k < n
      · simp [hk, h2, Nat.lt_succ_of_lt h2]
      · have : ¬ k < n + 1 := by omega
        simp [hk, h2, this]
  · simp [hb]
theorem filM_x {I : jI} {a n : Nat} {v : Int} {b : Nat} (h : b ≠ a) (k : Nat) : filM I a n v b k = I b k := by simp [filM, h]
theorem fill_loop {a n : Nat} {v : Int} (ha : jAr E 9 a n) (hn : n ≤ 5000) : ∀ (k i : Nat), i + k = n → jJ E yJ7_fill_53178.cls cJ7_fill_53178 4 none (jRm d) (jZ E (jD none (filM I a n v) P)) 0 0 5 [some (jp a), some (ji v), some (ji (i : Int)), some (ji (n : Int))] [] (filM I a i v) P := by
  intro k
  induction k with
  | zero =>
    intro i hk
    refine jJ_iload_n (pc := 5) dJ7_fill_53178_5 rfl ?_
    refine jJ_iload_n (pc := 6) dJ7_fill_53178_6 rfl ?_
    refine jJ_icmp_ge (pc := 7) (tgt := 20) dJ7_fill_53178_7 (by decide) (fun c7 => ?_) (fun c7 => ?_)
    · refine jJ_vret (pc := 20) dJ7_fill_53178_20 rfl ?_
      exact ⟨rfl, by rw [show i = n by omega], rfl⟩
    · exfalso
      omega
  | succ k ih =>
    intro i hk
    refine jJ_iload_n (pc := 5) dJ7_fill_53178_5 rfl ?_
    refine jJ_iload_n (pc := 6) dJ7_fill_53178_6 rfl ?_
    refine jJ_icmp_ge (pc := 7) (tgt := 20) dJ7_fill_53178_7 (by decide) (fun c7 => ?_) (fun c7 => ?_)
    · exfalso
      omega
    · refine jJ_aload_n (pc := 10) dJ7_fill_53178_10 rfl ?_
      refine jJ_iload_n (pc := 11) dJ7_fill_53178_11 rfl ?_
      refine jJ_iload_n (pc := 12) dJ7_fill_53178_12 rfl ?_
      refine jJ_iast (pc := 13) dJ7_fill_53178_13 (by assumption) ⟨by omega, by omega⟩ ?_
      rw [Int.toNat_natCast, filM_s]
      refine jJ_iinc (pc := 14) (ls' := [_, _, _, _]) dJ7_fill_53178_14 rfl ⟨by omega, by omega⟩ rfl ?_
      refine jJ_goto (pc := 17) (tgt := 5) dJ7_fill_53178_17 (by decide) ?_
      exact ih (i + 1) (by omega)
theorem c_fill {a n : Nat} {v : Int} (ha : jAr E 9 a n) (hn : n ≤ 5000) : jC E yJ7_fill_53178 cJ7_fill_53178 4 none d [jp a, ji v] I P (jD none (filM I a n v) P) := by
  refine jC_intro (by decide +kernel) (by simp [jc, va_rf, Value.category]) (Nat.le_of_ble_eq_true rfl) ?_
  refine jJ_iconst (pc := 0) dJ7_fill_53178_0 (by decide) ?_
  refine jJ_istore_n (pc := 1) (ls' := [_, _, _, _]) dJ7_fill_53178_1 (Nat.le_of_ble_eq_true rfl) rfl ?_
  refine jJ_aload_n (pc := 2) dJ7_fill_53178_2 rfl ?_
  refine jJ_alen (pc := 3) (t0 := 1) dJ7_fill_53178_3 (by assumption) rfl (by decide) (by decide) ⟨by omega, by omega⟩ ?_
  refine jJ_istore_n (pc := 4) (ls' := [_, _, _, _]) dJ7_fill_53178_4 (Nat.le_of_ble_eq_true rfl) rfl ?_
  have e0 : filM I a 0 v = I := by funext b k; simp [filM]
  have h := fill_loop (I := I) (P := P) (d := d) (v := v) ha hn n 0 (by omega)
  rw [e0] at h
  exact h
/-- how a tally's object lies: the wrongs of all at u 0, of two TESTS at u 1 -/
def TlL (E : jE) (P : jP) (t : Nat) (u : Nat → Nat) : Prop := jK E 4 t ∧ P t 0 = some (u 0) ∧ P t 1 = some (u 1) ∧ jAr E 9 (u 0) 3 ∧ jAr E 9 (u 1) 300 ∧ u 0 ≠ u 1
theorem c_Tally_clear {t : Nat} {u : Nat → Nat} (ht : TlL E P t u) (hd : 1 ≤ d) : jC E yX4_clear cX4_clear 1 none d [jp t] I P (jD none (filM (filM I (u 0) 3 0) (u 1) 300 0) P) := by
  obtain ⟨h0, p0, p1, a0, a1, hne⟩ := ht
  refine jC_intro (by decide +kernel) (by simp [jc, va_rf, Value.category]) (Nat.le_of_ble_eq_true rfl) ?_
  refine jJ_aload_n (pc := 0) dX4_clear_0 rfl ?_
  refine jJ_getr (pc := 1) dX4_clear_1 fX4_9 rfl (by assumption) (by assumption) ?_
  refine jJ_iconst (pc := 4) dX4_clear_4 (by decide) ?_
  refine jJ_callSd (pc := 5) (as := [_, _]) dX4_clear_5 mX4_18 (Nat.le_of_ble_eq_true rfl) (jRm_ok (by omega) (by decide)) (c_fill (d := d - 1) a0 (by decide)) ?_
  refine jJ_aload_n (pc := 8) dX4_clear_8 rfl ?_
  refine jJ_getr (pc := 9) dX4_clear_9 fX4_15 rfl (by assumption) (by assumption) ?_
  refine jJ_iconst (pc := 12) dX4_clear_12 (by decide) ?_
  refine jJ_callSd (pc := 13) (as := [_, _]) dX4_clear_13 mX4_18 (Nat.le_of_ble_eq_true rfl) (jRm_ok (by omega) (by decide)) (c_fill (d := d - 1) a1 (by decide)) ?_
  refine jJ_vret (pc := 16) dX4_clear_16 rfl ?_
  exact ⟨rfl, rfl, rfl⟩
def bitAt (bits : Int) (t : Int) : Prop := jAnd (jShr bits t) 1 = 1
/-- the wrongs of two TESTS where the first m pairs are counted -/
def cwM (I : jI) (b : Nat) (bits : Int) (c m : Nat) : jI := fun a k => if a = b ∧ k < 3 * m ∧ k % 3 = c ∧ jAnd (jShr bits ((k / 3 / 10 : Nat) : Int)) 1 = 1 ∧ jAnd (jShr bits ((k / 3 % 10 : Nat) : Int)) 1 = 1 then I a k + 1 else I a k
theorem cwM_x {I : jI} {b : Nat} {bits : Int} {c m a : Nat} (h : a ≠ b) (k : Nat) : cwM I b bits c m a k = I a k := by simp [cwM, h]
theorem cwM_no {I : jI} {b : Nat} {bits : Int} {c t u : Nat} (hu : u < 10) (h : jAnd (jShr bits (t : Int)) 1 ≠ 1 ∨ jAnd (jShr bits (u : Int)) 1 ≠ 1) (hc : c < 3) : cwM I b bits c (t * 10 + u) = cwM I b bits c (t * 10 + u + 1) := by
  funext a k
  simp only [cwM]
  by_cases h1 : k < 3 * (t * 10 + u)
  · have h2 : k < 3 * (t * 10 + u + 1) := by omega
    simp only [h1, h2, true_and]
  · by_cases h2 : k < 3 * (t * 10 + u + 1)
    · have e1 : k / 3 / 10 = t := by omega
      have e2 : k / 3 % 10 = u := by omega
      simp only [h1, h2, false_and, and_false, if_false, true_and, e1, e2]
      rw [if_neg]
      intro z
      rcases h with h | h
      · exact h z.2.2.1
      · exact h z.2.2.2
    · simp only [h1, h2, false_and, and_false]
theorem cwM_yes {I : jI} {b : Nat} {bits : Int} {c t u : Nat} (hu : u < 10) (h1 : jAnd (jShr bits (t : Int)) 1 = 1) (h2 : jAnd (jShr bits (u : Int)) 1 = 1) (hc : c < 3) : jput (cwM I b bits c (t * 10 + u)) b ((t * 10 + u) * 3 + c) (cwM I b bits c (t * 10 + u) b ((t * 10 + u) * 3 + c) + 1) = cwM I b bits c (t * 10 + u + 1) := by
  have e0 : cwM I b bits c (t * 10 + u) b ((t * 10 + u) * 3 + c) = I b ((t * 10 + u) * 3 + c) := by
    simp only [cwM]
    rw [if_neg]
    intro z
    have := z.2.1
    omega
  rw [e0]
  funext a k
  by_cases ha : a = b
  · subst ha
    by_cases hk : k = (t * 10 + u) * 3 + c
    · subst hk
      rw [jput_s]
      simp only [cwM]
      have e1 : ((t * 10 + u) * 3 + c) / 3 / 10 = t := by omega
      have e2 : ((t * 10 + u) * 3 + c) / 3 % 10 = u := by omega
      have e3 : ((t * 10 + u) * 3 + c) % 3 = c := by omega
      have e4 : (t * 10 + u) * 3 + c < 3 * (t * 10 + u + 1) := by omega
      rw [e1, e2, e3, if_pos ⟨trivial, e4, rfl, h1, h2⟩]
    · rw [jput_k _ hk]
      simp only [cwM]
      by_cases q1 : k < 3 * (t * 10 + u)
      · have q2 : k < 3 * (t * 10 + u + 1) := by omega
        simp only [q1, q2, true_and]
      · by_cases q2 : k < 3 * (t * 10 + u + 1)
        · have q3 : ¬ k % 3 = c := by omega
          simp only [q1, q2, q3, false_and, and_false]
        · simp only [q1, q2, false_and, and_false]
  · rw [jput_a _ ha, cwM_x ha, cwM_x ha]
theorem cwM_rng {I : jI} {b : Nat} {bits : Int} {c m : Nat} {B : Int} (h : ∀ k, k < 300 → 0 ≤ I b k ∧ I b k ≤ B) (k : Nat) (hk : k < 300) : 0 ≤ cwM I b bits c m b k ∧ cwM I b bits c m b k ≤ B + 1 := by
  have := h k hk
  simp only [cwM]
  split <;> omega
theorem countWrong_in {t : Nat} {u : Nat → Nat} {bits : Int} {c i : Nat} (ht : TlL E P t u) (hc : c < 3) (hi : i < 10) (hb : jAnd (jShr bits (i : Int)) 1 = 1) (hI : ∀ k, k < 300 → 0 ≤ I (u 1) k ∧ I (u 1) k ≤ 100000)
    (kk : ∀ z : Option jV, jJ E yX4_countWrong.cls cX4_countWrong 5 none (jRm d) (jZ E (jD none (cwM I (u 1) bits c 100) P)) 0 0 63 [some (jp t), some (ji bits), some (ji (c : Int)), some (ji (i : Int)), z] [] (cwM I (u 1) bits c (i * 10 + 10)) P) :
    ∀ (k j : Nat), j + k = 10 → jJ E yX4_countWrong.cls cX4_countWrong 5 none (jRm d) (jZ E (jD none (cwM I (u 1) bits c 100) P)) 0 0 20 [some (jp t), some (ji bits), some (ji (c : Int)), some (ji (i : Int)), some (ji (j : Int))] [] (cwM I (u 1) bits c (i * 10 + j)) P := by
  obtain ⟨h0, p0, p1, a0, a1, hne⟩ := ht
  intro k
  induction k with
  | zero =>
    intro j hk
    refine jJ_iload (pc := 20) dX4_countWrong_20 rfl ?_
    refine jJ_bipush (pc := 22) dX4_countWrong_22 (by decide) ?_
    refine jJ_icmp_ge (pc := 24) (tgt := 63) dX4_countWrong_24 (by decide) (fun c24 => ?_) (fun c24 => ?_)
    · rw [show j = 10 by omega]
      exact kk _
    · exfalso
      omega
  | succ k ih =>
    intro j hk
    refine jJ_iload (pc := 20) dX4_countWrong_20 rfl ?_
    refine jJ_bipush (pc := 22) dX4_countWrong_22 (by decide) ?_
    refine jJ_icmp_ge (pc := 24) (tgt := 63) dX4_countWrong_24 (by decide) (fun c24 => ?_) (fun c24 => ?_)
    · exfalso
      omega
    · refine jJ_iload_n (pc := 27) dX4_countWrong_27 rfl ?_
      refine jJ_iload (pc := 28) dX4_countWrong_28 rfl ?_
      refine jJ_ishr (pc := 30) dX4_countWrong_30 ?_
      refine jJ_iconst (pc := 31) dX4_countWrong_31 (by decide) ?_
      refine jJ_iand (pc := 32) dX4_countWrong_32 ?_
      refine jJ_iconst (pc := 33) dX4_countWrong_33 (by decide) ?_
      refine jJ_icmp_ne (pc := 34) (tgt := 57) dX4_countWrong_34 (by decide) (fun c34 => ?_) (fun c34 => ?_)
      · rw [cwM_no (by omega) (Or.inr c34) hc]
        refine jJ_iinc (pc := 57) (ls' := [_, _, _, _, _]) dX4_countWrong_57 rfl ⟨by omega, by omega⟩ rfl ?_
        refine jJ_goto (pc := 60) (tgt := 20) dX4_countWrong_60 (by decide) ?_
        exact ih (j + 1) (by omega)
      · refine jJ_aload_n (pc := 37) dX4_countWrong_37 rfl ?_
        refine jJ_getr (pc := 38) dX4_countWrong_38 fX4_15 rfl (by assumption) (by assumption) ?_
        refine jJ_iload_n (pc := 41) dX4_countWrong_41 rfl ?_
        refine jJ_bipush (pc := 42) dX4_countWrong_42 (by decide) ?_
        refine jJ_imul (pc := 44) dX4_countWrong_44 ⟨by omega, by omega⟩ ?_
        refine jJ_iload (pc := 45) dX4_countWrong_45 rfl ?_
        refine jJ_iadd (pc := 47) dX4_countWrong_47 ⟨by omega, by omega⟩ ?_
        refine jJ_iconst (pc := 48) dX4_countWrong_48 (by decide) ?_
        refine jJ_imul (pc := 49) dX4_countWrong_49 ⟨by omega, by omega⟩ ?_
        refine jJ_iload_n (pc := 50) dX4_countWrong_50 rfl ?_
        refine jJ_iadd (pc := 51) dX4_countWrong_51 ⟨by omega, by omega⟩ ?_
        refine jJ_dup2 (pc := 52) dX4_countWrong_52 rfl rfl ?_
        refine jJ_iald (pc := 53) dX4_countWrong_53 (by assumption) ⟨by omega, by omega⟩ ?_
        rw [show (((i : Int) * 10 + (j : Int)) * 3 + (c : Int)).toNat = (i * 10 + j) * 3 + c by omega]
        have hr := cwM_rng (bits := bits) (c := c) (m := i * 10 + j) hI ((i * 10 + j) * 3 + c) (by omega)
        refine jJ_iconst (pc := 54) dX4_countWrong_54 (by decide) ?_
        refine jJ_iadd (pc := 55) dX4_countWrong_55 ⟨by omega, by omega⟩ ?_
        refine jJ_iast (pc := 56) dX4_countWrong_56 (by assumption) ⟨by omega, by omega⟩ ?_
        rw [show (((i : Int) * 10 + (j : Int)) * 3 + (c : Int)).toNat = (i * 10 + j) * 3 + c by omega, cwM_yes (by omega) hb c34 hc]
        refine jJ_iinc (pc := 57) (ls' := [_, _, _, _, _]) dX4_countWrong_57 rfl ⟨by omega, by omega⟩ rfl ?_
        refine jJ_goto (pc := 60) (tgt := 20) dX4_countWrong_60 (by decide) ?_
        exact ih (j + 1) (by omega)
theorem countWrong_out {t : Nat} {u : Nat → Nat} {bits : Int} {c : Nat} (ht : TlL E P t u) (hc : c < 3) (hI : ∀ k, k < 300 → 0 ≤ I (u 1) k ∧ I (u 1) k ≤ 100000) :
    ∀ (k i : Nat) (z : Option jV), i + k = 10 → jJ E yX4_countWrong.cls cX4_countWrong 5 none (jRm d) (jZ E (jD none (cwM I (u 1) bits c 100) P)) 0 0 2 [some (jp t), some (ji bits), some (ji (c : Int)), some (ji (i : Int)), z] [] (cwM I (u 1) bits c (i * 10)) P := by
  intro k
  induction k with
  | zero =>
    intro i z hk
    refine jJ_iload_n (pc := 2) dX4_countWrong_2 rfl ?_
    refine jJ_bipush (pc := 3) dX4_countWrong_3 (by decide) ?_
    refine jJ_icmp_ge (pc := 5) (tgt := 69) dX4_countWrong_5 (by decide) (fun c5 => ?_) (fun c5 => ?_)
    · refine jJ_vret (pc := 69) dX4_countWrong_69 rfl ?_
      exact ⟨rfl, by rw [show i * 10 = 100 by omega], rfl⟩
    · exfalso
      omega
  | succ k ih =>
    intro i z hk
    have go : ∀ z' : Option jV, jJ E yX4_countWrong.cls cX4_countWrong 5 none (jRm d) (jZ E (jD none (cwM I (u 1) bits c 100) P)) 0 0 63 [some (jp t), some (ji bits), some (ji (c : Int)), some (ji (i : Int)), z'] [] (cwM I (u 1) bits c (i * 10 + 10)) P := by
      intro z'
      refine jJ_iinc (pc := 63) (ls' := [_, _, _, _, _]) dX4_countWrong_63 rfl ⟨by omega, by omega⟩ rfl ?_
      refine jJ_goto (pc := 66) (tgt := 2) dX4_countWrong_66 (by decide) ?_
      have h := ih (i + 1) z' (by omega)
      rw [show (i + 1) * 10 = i * 10 + 10 by omega] at h
      exact h
    refine jJ_iload_n (pc := 2) dX4_countWrong_2 rfl ?_
    refine jJ_bipush (pc := 3) dX4_countWrong_3 (by decide) ?_
    refine jJ_icmp_ge (pc := 5) (tgt := 69) dX4_countWrong_5 (by decide) (fun c5 => ?_) (fun c5 => ?_)
    · exfalso
      omega
    · refine jJ_iload_n (pc := 8) dX4_countWrong_8 rfl ?_
      refine jJ_iload_n (pc := 9) dX4_countWrong_9 rfl ?_
      refine jJ_ishr (pc := 10) dX4_countWrong_10 ?_
      refine jJ_iconst (pc := 11) dX4_countWrong_11 (by decide) ?_
      refine jJ_iand (pc := 12) dX4_countWrong_12 ?_
      refine jJ_iconst (pc := 13) dX4_countWrong_13 (by decide) ?_
      refine jJ_icmp_ne (pc := 14) (tgt := 63) dX4_countWrong_14 (by decide) (fun c14 => ?_) (fun c14 => ?_)
      · have e : ∀ j, j ≤ 10 → cwM I (u 1) bits c (i * 10) = cwM I (u 1) bits c (i * 10 + j) := by
          intro j
          induction j with
          | zero => intro _; rfl
          | succ j ihj => intro hj; rw [ihj (by omega), cwM_no (by omega) (Or.inl c14) hc]; rfl
        rw [e 10 (by omega)]
        exact go _
      · refine jJ_iconst (pc := 17) dX4_countWrong_17 (by decide) ?_
        refine jJ_istore (pc := 18) (ls' := [_, _, _, _, _]) dX4_countWrong_18 (Nat.le_of_ble_eq_true rfl) rfl ?_
        exact countWrong_in ht hc (by omega) c14 hI go 10 0 (by omega)
theorem c_Tally_countWrong {t : Nat} {u : Nat → Nat} {bits : Int} {c : Nat} (ht : TlL E P t u) (hc : c < 3) (hI : ∀ k, k < 300 → 0 ≤ I (u 1) k ∧ I (u 1) k ≤ 100000) : jC E yX4_countWrong cX4_countWrong 5 none d [jp t, ji bits, ji (c : Int)] I P (jD none (cwM I (u 1) bits c 100) P) := by
  refine jC_intro (by decide +kernel) (by simp [jc, va_rf, Value.category]) (Nat.le_of_ble_eq_true rfl) ?_
  refine jJ_iconst (pc := 0) dX4_countWrong_0 (by decide) ?_
  refine jJ_istore_n (pc := 1) (ls' := [_, _, _, _, _]) dX4_countWrong_1 (Nat.le_of_ble_eq_true rfl) rfl ?_
  have e0 : cwM I (u 1) bits c 0 = I := by funext a k; simp [cwM]
  have h := countWrong_out (d := d) (bits := bits) ht hc hI 10 0 none (by omega)
  rw [e0] at h
  exact h
/-- one gap of these bits and this choice is counted, for the choices below m -/
def cntM (I : jI) (u : Nat → Nat) (kd bits ch : Int) : Nat → jI
  | 0 => I
  | m + 1 => if kepA kd (m : Int) = ch then cntM I u kd bits ch m else cwM (jput (cntM I u kd bits ch m) (u 0) m (cntM I u kd bits ch m (u 0) m + 1)) (u 1) bits m 100
theorem cntM_t {I : jI} {u : Nat → Nat} {kd bits ch : Int} {m : Nat} (h : kepA kd (m : Int) = ch) : cntM I u kd bits ch (m + 1) = cntM I u kd bits ch m := by rw [cntM, if_pos h]
theorem cntM_f {I : jI} {u : Nat → Nat} {kd bits ch : Int} {m : Nat} (h : kepA kd (m : Int) ≠ ch) : cntM I u kd bits ch (m + 1) = cwM (jput (cntM I u kd bits ch m) (u 0) m (cntM I u kd bits ch m (u 0) m + 1)) (u 1) bits m 100 := by rw [cntM, if_neg h]
theorem cntM_x {I : jI} {u : Nat → Nat} {kd bits ch : Int} {a : Nat} (h0 : a ≠ u 0) (h1 : a ≠ u 1) : ∀ (m k : Nat), cntM I u kd bits ch m a k = I a k
  | 0, k => rfl
  | m + 1, k => by
    simp only [cntM]
    split
    · exact cntM_x h0 h1 m k
    · rw [cwM_x h1, jput_a _ h0]
      exact cntM_x h0 h1 m k
theorem cntM_r {I : jI} {u : Nat → Nat} {kd bits ch : Int} {B : Int} (hne : u 0 ≠ u 1) (h0 : ∀ k, k < 3 → 0 ≤ I (u 0) k ∧ I (u 0) k ≤ B) (h1 : ∀ k, k < 300 → 0 ≤ I (u 1) k ∧ I (u 1) k ≤ B) : ∀ (m : Nat), m ≤ 3 → (∀ k, k < 3 → 0 ≤ cntM I u kd bits ch m (u 0) k ∧ cntM I u kd bits ch m (u 0) k ≤ B + m) ∧ (∀ k, k < 300 → 0 ≤ cntM I u kd bits ch m (u 1) k ∧ cntM I u kd bits ch m (u 1) k ≤ B + m)
  | 0, _ => ⟨fun k hk => by have := h0 k hk; simp only [cntM]; omega, fun k hk => by have := h1 k hk; simp only [cntM]; omega⟩
  | m + 1, hm => by
    obtain ⟨g0, g1⟩ := cntM_r (kd := kd) (bits := bits) (ch := ch) hne h0 h1 m (by omega)
    simp only [cntM]
    split
    · exact ⟨fun k hk => by have := g0 k hk; omega, fun k hk => by have := g1 k hk; omega⟩
    · refine ⟨fun k hk => ?_, fun k hk => ?_⟩
      · rw [cwM_x hne]
        have := g0 k hk
        have := g0 m (by omega)
        simp only [jput]
        split <;> omega
      · have := cwM_rng (I := jput (cntM I u kd bits ch m) (u 0) m (cntM I u kd bits ch m (u 0) m + 1)) (b := u 1) (bits := bits) (c := m) (m := 100) (B := B + m) (fun k hk => by rw [jput_a _ (Ne.symm hne)]; exact g1 k hk) k hk
        omega
theorem count_loop {t : Nat} {u : Nat → Nat} {kd bits ch : Int} (ht : TlL E P t u) (h0 : ∀ k, k < 3 → 0 ≤ I (u 0) k ∧ I (u 0) k ≤ 90000) (h1 : ∀ k, k < 300 → 0 ≤ I (u 1) k ∧ I (u 1) k ≤ 90000) (hd : 1 ≤ d) :
    ∀ (k c : Nat), c + k = 3 → jJ E yX4_count.cls cX4_count 5 none (jRm d) (jZ E (jD none (cntM I u kd bits ch 3) P)) 0 0 3 [some (jp t), some (ji kd), some (ji bits), some (ji ch), some (ji (c : Int))] [] (cntM I u kd bits ch c) P := by
  have ht0 := ht
  obtain ⟨q0, p0, p1, a0, a1, hne⟩ := ht
  intro k
  induction k with
  | zero =>
    intro c hk
    refine jJ_iload (pc := 3) dX4_count_3 rfl ?_
    refine jJ_iconst (pc := 5) dX4_count_5 (by decide) ?_
    refine jJ_icmp_ge (pc := 6) (tgt := 43) dX4_count_6 (by decide) (fun c6 => ?_) (fun c6 => ?_)
    · refine jJ_vret (pc := 43) dX4_count_43 rfl ?_
      exact ⟨rfl, by rw [show c = 3 by omega], rfl⟩
    · exfalso
      omega
  | succ k ih =>
    intro c hk
    have hr := cntM_r (kd := kd) (bits := bits) (ch := ch) hne h0 h1 c (by omega)
    refine jJ_iload (pc := 3) dX4_count_3 rfl ?_
    refine jJ_iconst (pc := 5) dX4_count_5 (by decide) ?_
    refine jJ_icmp_ge (pc := 6) (tgt := 43) dX4_count_6 (by decide) (fun c6 => ?_) (fun c6 => ?_)
    · exfalso
      omega
    · refine jJ_iload_n (pc := 9) dX4_count_9 rfl ?_
      refine jJ_iload (pc := 10) dX4_count_10 rfl ?_
      refine jJ_callSd (pc := 12) (as := [_, _]) dX4_count_12 mX4_24 (Nat.le_of_ble_eq_true rfl) (jRm_ok (by omega) (by decide)) (c_keptApart (d := d - 1)) ?_
      refine jJ_iload_n (pc := 15) dX4_count_15 rfl ?_
      refine jJ_icmp_eq (pc := 16) (tgt := 37) dX4_count_16 (by decide) (fun c16 => ?_) (fun c16 => ?_)
      · refine jJ_iinc (pc := 37) (ls' := [_, _, _, _, _]) dX4_count_37 rfl ⟨by omega, by omega⟩ rfl ?_
        refine jJ_goto (pc := 40) (tgt := 3) dX4_count_40 (by decide) ?_
        have h := ih (c + 1) (by omega)
        rw [cntM_t c16] at h
        exact h
      · refine jJ_aload_n (pc := 19) dX4_count_19 rfl ?_
        refine jJ_getr (pc := 20) dX4_count_20 fX4_9 rfl (by assumption) (by assumption) ?_
        refine jJ_iload (pc := 23) dX4_count_23 rfl ?_
        refine jJ_dup2 (pc := 25) dX4_count_25 rfl rfl ?_
        refine jJ_iald (pc := 26) dX4_count_26 (by assumption) ⟨by omega, by omega⟩ ?_
        rw [Int.toNat_natCast]
        have hr0 := hr.1 c (by omega)
        refine jJ_iconst (pc := 27) dX4_count_27 (by decide) ?_
        refine jJ_iadd (pc := 28) dX4_count_28 ⟨by omega, by omega⟩ ?_
        refine jJ_iast (pc := 29) dX4_count_29 (by assumption) ⟨by omega, by omega⟩ ?_
        refine jJ_aload_n (pc := 30) dX4_count_30 rfl ?_
        refine jJ_iload_n (pc := 31) dX4_count_31 rfl ?_
        refine jJ_iload (pc := 32) dX4_count_32 rfl ?_
        rw [Int.toNat_natCast]
        refine jJ_callVd (pc := 34) (as := [_, _]) dX4_count_34 mX4_28 (jRcv_of (by assumption) rfl rfl) (Nat.le_of_ble_eq_true rfl) (jRm_ok (by omega) (by decide)) (c_Tally_countWrong (d := d - 1) ht0 (by omega) (fun k hk => by rw [jput_a _ (Ne.symm hne)]; have := hr.2 k hk; omega)) ?_
        refine jJ_iinc (pc := 37) (ls' := [_, _, _, _, _]) dX4_count_37 rfl ⟨by omega, by omega⟩ rfl ?_
        refine jJ_goto (pc := 40) (tgt := 3) dX4_count_40 (by decide) ?_
        have h := ih (c + 1) (by omega)
        rw [cntM_f c16] at h
        exact h
theorem c_Tally_count {t : Nat} {u : Nat → Nat} {kd bits ch : Int} (ht : TlL E P t u) (h0 : ∀ k, k < 3 → 0 ≤ I (u 0) k ∧ I (u 0) k ≤ 90000) (h1 : ∀ k, k < 300 → 0 ≤ I (u 1) k ∧ I (u 1) k ≤ 90000) (hd : 1 ≤ d) : jC E yX4_count cX4_count 5 none d [jp t, ji kd, ji bits, ji ch] I P (jD none (cntM I u kd bits ch 3) P) := by
  refine jC_intro (by decide +kernel) (by simp [jc, va_rf, Value.category]) (Nat.le_of_ble_eq_true rfl) ?_
  refine jJ_iconst (pc := 0) dX4_count_0 (by decide) ?_
  refine jJ_istore (pc := 1) (ls' := [_, _, _, _, _]) dX4_count_1 (Nat.le_of_ble_eq_true rfl) rfl ?_
  exact count_loop ht h0 h1 hd 3 0 (by omega)
end JTally
