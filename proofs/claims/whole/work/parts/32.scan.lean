section JScan
variable {E : jE} {I : jI} {P : jP} {d : Nat} {rd op : Nat} {s r : Nat → Int}
/-! spelling: a row's bytes against a text -/
theorem spells_loop {q n i : Nat} {a b : Int} {a0 : Nat} (hq : jAr E 8 q n) (hi : i < 15) (h1 : a0 + sLn i ≤ n) (hn : n ≤ 5000) (hd : 4 ≤ d) :
    ∀ (k j : Nat), j + k = sLn i → jJ E yX6_spells.cls cX6_spells 6 (some .boolean) (jRm d) (jZ E (jD (some (ji (jb (allE (I q) (sCh i) (a0 + j) j k = true)))) I P)) 0 0 29 [some (jp q), some (ji (a0 : Int)), some (ji b), some (jp (eSk E i)), some (ji (sLn i : Int)), some (ji (j : Int))] [] I P := by
  intro k
  induction k with
  | zero =>
    intro j hk
    refine jJ_iload (pc := 29) dX6_spells_29 rfl ?_
    refine jJ_iload (pc := 31) dX6_spells_31 rfl ?_
    refine jJ_icmp_ge (pc := 33) (tgt := 59) dX6_spells_33 (by decide) (fun c33 => ?_) (fun c33 => ?_)
    · refine jJ_iconst (pc := 59) dX6_spells_59 (by decide) ?_
      refine jJ_zret (pc := 60) dX6_spells_60 rfl (by decide) ?_
      exact ⟨rfl, rfl, rfl⟩
    · exfalso
      omega
  | succ k ih =>
    intro j hk
    refine jJ_iload (pc := 29) dX6_spells_29 rfl ?_
    refine jJ_iload (pc := 31) dX6_spells_31 rfl ?_
    refine jJ_icmp_ge (pc := 33) (tgt := 59) dX6_spells_33 (by decide) (fun c33 => ?_) (fun c33 => ?_)
    · exfalso
      omega
    · refine jJ_aload_n (pc := 36) dX6_spells_36 rfl ?_
      refine jJ_iload_n (pc := 37) dX6_spells_37 rfl ?_
      refine jJ_iload (pc := 38) dX6_spells_38 rfl ?_
      refine jJ_iadd (pc := 40) dX6_spells_40 ⟨by omega, by omega⟩ ?_
      refine jJ_bald (pc := 41) dX6_spells_41 hq ⟨by omega, by omega⟩ ?_
      refine jJ_aload_n (pc := 42) dX6_spells_42 rfl ?_
      refine jJ_iload (pc := 43) dX6_spells_43 rfl ?_
      rw [show ((a0 : Int) + (j : Int)).toNat = a0 + j by omega]
      refine jJ_callVd (pc := 45) (as := [_]) dX6_spells_45 mX6_277 (Or.inr ⟨rfl, i, hi, rfl⟩) (Nat.le_of_ble_eq_true rfl) (jRm_ok (by omega) (by decide)) (c_charAt (d := d - 1) hi (by omega) (by omega)) ?_
      refine jJ_icmp_eq (pc := 48) (tgt := 53) dX6_spells_48 (by decide) (fun c48 => ?_) (fun c48 => ?_)
      · refine jJ_iinc (pc := 53) (ls' := [_, _, _, _, _, _]) dX6_spells_53 rfl ⟨by omega, by omega⟩ rfl ?_
        refine jJ_goto (pc := 56) (tgt := 29) dX6_spells_56 (by decide) ?_
        rw [allE_t c48]
        exact ih (j + 1) (by omega)
      · refine jJ_iconst (pc := 51) dX6_spells_51 (by decide) ?_
        refine jJ_zret (pc := 52) dX6_spells_52 rfl (by decide) ?_
        exact ⟨by rw [allE_f c48]; rfl, rfl, rfl⟩
def splV (f : Nat → Int) (n i : Nat) (a b : Int) : Prop := b - a = (sLn i : Int) ∧ 0 ≤ a ∧ b ≤ (n : Int) ∧ allE f (sCh i) a.toNat 0 (sLn i) = true
theorem c_spells {q n i : Nat} {a b : Int} (hq : jAr E 8 q n) (hi : i < 15) (hn : n ≤ 5000) (ha : -5000 ≤ a ∧ a ≤ 5000) (hb : -5000 ≤ b ∧ b ≤ 5000) (hd : 4 ≤ d) : jC E yX6_spells cX6_spells 6 (some .boolean) d [jp q, ji a, ji b, jp (eSk E i)] I P (jD (some (ji (jb (b - a = (sLn i : Int) ∧ 0 ≤ a ∧ b ≤ (n : Int) ∧ allE (I q) (sCh i) a.toNat 0 (sLn i) = true)))) I P) := by
  refine jC_intro (by decide +kernel) (by simp [jc, va_rf, Value.category]) (Nat.le_of_ble_eq_true rfl) ?_
  refine jJ_aload_n (pc := 0) dX6_spells_0 rfl ?_
  refine jJ_callVd (pc := 1) (as := []) dX6_spells_1 mX6_273 (Or.inr ⟨rfl, i, hi, rfl⟩) (Nat.le_of_ble_eq_true rfl) (jRm_ok (by omega) (by decide)) (c_len (d := d - 1) hi (by omega)) ?_
  refine jJ_istore (pc := 4) (ls' := [_, _, _, _, _, _]) dX6_spells_4 (Nat.le_of_ble_eq_true rfl) rfl ?_
  refine jJ_iload_n (pc := 6) dX6_spells_6 rfl ?_
  refine jJ_iload_n (pc := 7) dX6_spells_7 rfl ?_
  refine jJ_isub (pc := 8) dX6_spells_8 ⟨by omega, by omega⟩ ?_
  refine jJ_iload (pc := 9) dX6_spells_9 rfl ?_
  refine jJ_icmp_ne (pc := 11) (tgt := 24) dX6_spells_11 (by decide) (fun c11 => ?_) (fun c11 => ?_)
  · refine jJ_iconst (pc := 24) dX6_spells_24 (by decide) ?_
    refine jJ_zret (pc := 25) dX6_spells_25 rfl (by decide) ?_
    exact ⟨by rw [← jb_f (fun z => by omega)], rfl, rfl⟩
  · refine jJ_iload_n (pc := 14) dX6_spells_14 rfl ?_
    refine jJ_if_lt (pc := 15) (tgt := 24) dX6_spells_15 (by decide) (fun c15 => ?_) (fun c15 => ?_)
    · refine jJ_iconst (pc := 24) dX6_spells_24 (by decide) ?_
      refine jJ_zret (pc := 25) dX6_spells_25 rfl (by decide) ?_
      exact ⟨by rw [← jb_f (fun z => by omega)], rfl, rfl⟩
    · refine jJ_iload_n (pc := 18) dX6_spells_18 rfl ?_
      refine jJ_aload_n (pc := 19) dX6_spells_19 rfl ?_
      refine jJ_alen (pc := 20) (t0 := 0) dX6_spells_20 hq rfl (by decide) (by decide) ⟨by omega, by omega⟩ ?_
      refine jJ_icmp_le (pc := 21) (tgt := 26) dX6_spells_21 (by decide) (fun c21 => ?_) (fun c21 => ?_)
      · refine jJ_iconst (pc := 26) dX6_spells_26 (by decide) ?_
        refine jJ_istore (pc := 27) (ls' := [_, _, _, _, _, _]) dX6_spells_27 (Nat.le_of_ble_eq_true rfl) rfl ?_
        have h := spells_loop (I := I) (P := P) (d := d) (a := a) (b := b) (a0 := a.toNat) hq hi (by omega) hn hd (sLn i) 0 (by omega)
        rw [show ((a.toNat : Nat) : Int) = a by omega] at h
        refine jJ_of_eq h ?_
        congr 2
        unfold jb
        simp only [*, true_and, Nat.add_zero]
      · refine jJ_iconst (pc := 24) dX6_spells_24 (by decide) ?_
        refine jJ_zret (pc := 25) dX6_spells_25 rfl (by decide) ?_
        exact ⟨by rw [← jb_f (fun z => by omega)], rfl, rfl⟩
def isKw (f : Nat → Int) (n i : Nat) (a b : Int) : Bool := decide (b - a = (sLn i : Int) ∧ 0 ≤ a ∧ b ≤ (n : Int) ∧ allE f (sCh i) a.toNat 0 (sLn i) = true)
theorem isKw_iff {f : Nat → Int} {n i : Nat} {a b : Int} : isKw f n i a b = true ↔ (b - a = (sLn i : Int) ∧ 0 ≤ a ∧ b ≤ (n : Int) ∧ allE f (sCh i) a.toNat 0 (sLn i) = true) := by unfold isKw; exact decide_eq_true_iff
/-- the sort of a WORD: a KEYWORD's number, or 1 -/
def wSort (f : Nat → Int) (n : Nat) (a b : Int) : Int := if isKw f n 0 a b = true then 3 else if isKw f n 1 a b = true then 4 else if isKw f n 2 a b = true then 5 else if isKw f n 3 a b = true then 6 else 1
theorem c_wordSort {q n : Nat} {a b : Int} (hq : jAr E 8 q n) (hn : n ≤ 5000) (ha : -5000 ≤ a ∧ a ≤ 5000) (hb : -5000 ≤ b ∧ b ≤ 5000) (hd : 5 ≤ d) : jC E yX6_wordSort cX6_wordSort 3 (some .int) d [jp q, ji a, ji b] I P (jD (some (ji (wSort (I q) n a b))) I P) := by
  refine jC_intro (by decide +kernel) (by simp [jc, va_rf, Value.category]) (Nat.le_of_ble_eq_true rfl) ?_
  refine jJ_aload_n (pc := 0) dX6_wordSort_0 rfl ?_
  refine jJ_iload_n (pc := 1) dX6_wordSort_1 rfl ?_
  refine jJ_iload_n (pc := 2) dX6_wordSort_2 rfl ?_
  refine jJ_ldcSw (pc := 3) (i := 0) dX6_wordSort_3 (by decide +kernel) ?_
  refine jJ_callSd (pc := 6) (as := [_, _, _, _]) dX6_wordSort_6 mX6_263 (Nat.le_of_ble_eq_true rfl) (jRm_ok (by omega) (by decide)) (c_spells (d := d - 1) hq (by decide) hn ha hb (by omega)) ?_
  refine jJ_if_eq (pc := 9) (tgt := 14) dX6_wordSort_9 (by decide) (fun c9 => ?_) (fun c9 => ?_)
  · try simp only [jb_z, jb_nz] at c9
    rw [← isKw_iff] at c9
    refine jJ_aload_n (pc := 14) dX6_wordSort_14 rfl ?_
    refine jJ_iload_n (pc := 15) dX6_wordSort_15 rfl ?_
    refine jJ_iload_n (pc := 16) dX6_wordSort_16 rfl ?_
    refine jJ_ldcSw (pc := 17) (i := 1) dX6_wordSort_17 (by decide +kernel) ?_
    refine jJ_callSd (pc := 20) (as := [_, _, _, _]) dX6_wordSort_20 mX6_263 (Nat.le_of_ble_eq_true rfl) (jRm_ok (by omega) (by decide)) (c_spells (d := d - 1) hq (by decide) hn ha hb (by omega)) ?_
    refine jJ_if_eq (pc := 23) (tgt := 28) dX6_wordSort_23 (by decide) (fun c23 => ?_) (fun c23 => ?_)
    · try simp only [jb_z, jb_nz] at c23
      rw [← isKw_iff] at c23
      refine jJ_aload_n (pc := 28) dX6_wordSort_28 rfl ?_
      refine jJ_iload_n (pc := 29) dX6_wordSort_29 rfl ?_
      refine jJ_iload_n (pc := 30) dX6_wordSort_30 rfl ?_
      refine jJ_ldcSw (pc := 31) (i := 2) dX6_wordSort_31 (by decide +kernel) ?_
      refine jJ_callSd (pc := 34) (as := [_, _, _, _]) dX6_wordSort_34 mX6_263 (Nat.le_of_ble_eq_true rfl) (jRm_ok (by omega) (by decide)) (c_spells (d := d - 1) hq (by decide) hn ha hb (by omega)) ?_
      refine jJ_if_eq (pc := 37) (tgt := 42) dX6_wordSort_37 (by decide) (fun c37 => ?_) (fun c37 => ?_)
      · try simp only [jb_z, jb_nz] at c37
        rw [← isKw_iff] at c37
        refine jJ_aload_n (pc := 42) dX6_wordSort_42 rfl ?_
        refine jJ_iload_n (pc := 43) dX6_wordSort_43 rfl ?_
        refine jJ_iload_n (pc := 44) dX6_wordSort_44 rfl ?_
        refine jJ_ldcSw (pc := 45) (i := 3) dX6_wordSort_45 (by decide +kernel) ?_
        refine jJ_callSd (pc := 48) (as := [_, _, _, _]) dX6_wordSort_48 mX6_263 (Nat.le_of_ble_eq_true rfl) (jRm_ok (by omega) (by decide)) (c_spells (d := d - 1) hq (by decide) hn ha hb (by omega)) ?_
        refine jJ_if_eq (pc := 51) (tgt := 59) dX6_wordSort_51 (by decide) (fun c51 => ?_) (fun c51 => ?_)
        · try simp only [jb_z, jb_nz] at c51
          rw [← isKw_iff] at c51
          refine jJ_iconst (pc := 59) dX6_wordSort_59 (by decide) ?_
          refine jJ_iret (pc := 60) dX6_wordSort_60 rfl ?_
          exact ⟨by simp only [wSort, *, if_true, if_false, not_false_eq_true, Bool.false_eq_true]; try rfl, rfl, rfl⟩
        · try simp only [jb_z, jb_nz] at c51
          rw [← isKw_iff] at c51
          refine jJ_bipush (pc := 54) dX6_wordSort_54 (by decide) ?_
          refine jJ_goto (pc := 56) (tgt := 60) dX6_wordSort_56 (by decide) ?_
          refine jJ_iret (pc := 60) dX6_wordSort_60 rfl ?_
          exact ⟨by simp only [wSort, *, if_true, if_false, not_false_eq_true, Bool.false_eq_true]; try rfl, rfl, rfl⟩
      · try simp only [jb_z, jb_nz] at c37
        rw [← isKw_iff] at c37
        refine jJ_iconst (pc := 40) dX6_wordSort_40 (by decide) ?_
        refine jJ_iret (pc := 41) dX6_wordSort_41 rfl ?_
        exact ⟨by simp only [wSort, *, if_true, if_false, not_false_eq_true, Bool.false_eq_true]; try rfl, rfl, rfl⟩
    · try simp only [jb_z, jb_nz] at c23
      rw [← isKw_iff] at c23
      refine jJ_iconst (pc := 26) dX6_wordSort_26 (by decide) ?_
      refine jJ_iret (pc := 27) dX6_wordSort_27 rfl ?_
      exact ⟨by simp only [wSort, *, if_true, if_false, not_false_eq_true, Bool.false_eq_true]; try rfl, rfl, rfl⟩
  · try simp only [jb_z, jb_nz] at c9
    rw [← isKw_iff] at c9
    refine jJ_iconst (pc := 12) dX6_wordSort_12 (by decide) ?_
    refine jJ_iret (pc := 13) dX6_wordSort_13 rfl ?_
    exact ⟨by simp only [wSort, *, if_true, if_false, not_false_eq_true, Bool.false_eq_true]; try rfl, rfl, rfl⟩
/-! the scanner -/
/-- from p on, while below n and P holds: where it ends (k: how far it may go) -/
def runW (p : Int → Bool) (f : Nat → Int) : Nat → Nat → Nat
  | 0, i => i
  | k + 1, i => if p (f i) = true then runW p f k (i + 1) else i
theorem runW_le (p : Int → Bool) (f : Nat → Int) : ∀ k i, i ≤ runW p f k i ∧ runW p f k i ≤ i + k
  | 0, i => by simp [runW]
  | k + 1, i => by
    have h := runW_le p f k (i + 1)
    simp only [runW]
    split <;> omega
def isWdB (b : Int) : Bool := decide ((97 ≤ b ∧ b ≤ 122) ∨ (65 ≤ b ∧ b ≤ 90) ∨ (48 ≤ b ∧ b ≤ 57) ∨ b = 95)
def isDgB (b : Int) : Bool := decide (48 ≤ b ∧ b ≤ 57)
def isBlB (b : Int) : Bool := decide (b = 32 ∨ b = 10)
theorem tByte_in {n : Int} {f : Nat → Int} {i : Nat} (h : (i : Int) < n) : tByte n f (i : Int) = f i := by
  unfold tByte
  rw [if_pos ⟨by omega, h⟩, Int.toNat_natCast]
theorem wordEnd_loop {x : Nat} {q : Nat → Nat} {n : Nat} (h : RdL E P rd op) (hx : TxL E P x q) (hq0 : q 0 ≠ op) (hn : I x 9 = (n : Int)) (hn2 : n ≤ 800) (hd : 2 ≤ d) :
    ∀ (k i : Nat), k = n - i → i ≤ 800 → jJ E yX3_wordEnd.cls cX3_wordEnd 3 (some .int) (jRm d) (jZ E (jD (some (ji (runW isWdB (I (q 0)) k i : Int))) (rdM I rd op s r) P)) 0 0 5 [some (jp rd), some (jp x), some (ji (i : Int))] [] (rdM I rd op s r) P := by
  have hx0 := hx.1
  have n1 : x ≠ rd := jne hx.1.2 h.1.2 (by decide)
  have n2 : x ≠ op := jne hx.1.2 h.2.2.2.1 (by decide)
  have n3 : q 0 ≠ rd := jne hx.2.2.1.2.1 h.1.2 (by decide)
  have e0 : rdM I rd op s r (q 0) = I (q 0) := funext (fun k => rdM_x n3 hq0 k)
  intro k
  induction k with
  | zero =>
    intro i hk hi
    refine jJ_iload_n (pc := 5) dX3_wordEnd_5 rfl ?_
    refine jJ_aload_n (pc := 6) dX3_wordEnd_6 rfl ?_
    refine jJ_geti (pc := 7) dX3_wordEnd_7 fX3_76 rfl (by assumption) ?_
    rw [rdM_x n1 n2, hn]
    refine jJ_icmp_ge (pc := 10) (tgt := 30) dX3_wordEnd_10 (by decide) (fun c10 => ?_) (fun c10 => ?_)
    · refine jJ_iload_n (pc := 30) dX3_wordEnd_30 rfl ?_
      refine jJ_iret (pc := 31) dX3_wordEnd_31 rfl ?_
      exact ⟨rfl, rfl, rfl⟩
    · exfalso
      omega
  | succ k ih =>
    intro i hk hi
    refine jJ_iload_n (pc := 5) dX3_wordEnd_5 rfl ?_
    refine jJ_aload_n (pc := 6) dX3_wordEnd_6 rfl ?_
    refine jJ_geti (pc := 7) dX3_wordEnd_7 fX3_76 rfl (by assumption) ?_
    rw [rdM_x n1 n2, hn]
    refine jJ_icmp_ge (pc := 10) (tgt := 30) dX3_wordEnd_10 (by decide) (fun c10 => ?_) (fun c10 => ?_)
    · exfalso
      omega
    · refine jJ_aload_n (pc := 13) dX3_wordEnd_13 rfl ?_
      refine jJ_iload_n (pc := 14) dX3_wordEnd_14 rfl ?_
      refine jJ_callVd (pc := 15) (as := [_]) dX3_wordEnd_15 mX3_79 (jRcv_of (by assumption) rfl rfl) (Nat.le_of_ble_eq_true rfl) (jRm_ok (by omega) (by decide)) (c_Text_byteAt (d := d - 1) hx (by rw [rdM_x n1 n2, hn]; omega)) ?_
      rw [rdM_x n1 n2, e0, hn, tByte_in (by omega)]
      refine jJ_callSd (pc := 18) (as := [_]) dX3_wordEnd_18 mX3_114 (Nat.le_of_ble_eq_true rfl) (jRm_ok (by omega) (by decide)) (c_Rd_isOfWord (d := d - 1) (by omega)) ?_
      refine jJ_if_eq (pc := 21) (tgt := 30) dX3_wordEnd_21 (by decide) (fun c21 => ?_) (fun c21 => ?_)
      · simp only [jb_z] at c21
        refine jJ_iload_n (pc := 30) dX3_wordEnd_30 rfl ?_
        refine jJ_iret (pc := 31) dX3_wordEnd_31 rfl ?_
        exact ⟨by rw [runW, if_neg (by unfold isWdB; simpa using c21)], rfl, rfl⟩
      · simp only [jb_nz] at c21
        refine jJ_iinc (pc := 24) (ls' := [_, _, _]) dX3_wordEnd_24 rfl ⟨by omega, by omega⟩ rfl ?_
        refine jJ_goto (pc := 27) (tgt := 5) dX3_wordEnd_27 (by decide) ?_
        rw [runW, if_pos (by unfold isWdB; simpa using c21)]
        exact ih (i + 1) (by omega) (by omega)
theorem c_Rd_wordEnd {x : Nat} {q : Nat → Nat} {n i : Nat} (h : RdL E P rd op) (hx : TxL E P x q) (hq0 : q 0 ≠ op) (hn : I x 9 = (n : Int)) (hn2 : n ≤ 800) (hi : s 8 = (i : Int)) (hi2 : i ≤ 800) (hd : 2 ≤ d) : jC E yX3_wordEnd cX3_wordEnd 3 (some .int) d [jp rd, jp x] (rdM I rd op s r) P (jD (some (ji (runW isWdB (I (q 0)) (n - i) i : Int))) (rdM I rd op s r) P) := by
  have h0 := h.1
  refine jC_intro (by decide +kernel) (by simp [jc, va_rf, Value.category]) (Nat.le_of_ble_eq_true rfl) ?_
  refine jJ_aload_n (pc := 0) dX3_wordEnd_0 rfl ?_
  refine jJ_geti (pc := 1) dX3_wordEnd_1 fX3_55 rfl (by assumption) ?_
  rw [rdM_g8, hi]
  refine jJ_istore_n (pc := 4) (ls' := [_, _, _]) dX3_wordEnd_4 (Nat.le_of_ble_eq_true rfl) rfl ?_
  exact wordEnd_loop h hx hq0 hn hn2 hd _ i rfl hi2
theorem digitsEnd_loop {x : Nat} {q : Nat → Nat} {n : Nat} (h : RdL E P rd op) (hx : TxL E P x q) (hq0 : q 0 ≠ op) (hn : I x 9 = (n : Int)) (hn2 : n ≤ 800) (hd : 2 ≤ d) :
    ∀ (k i : Nat), k = n - i → i ≤ 800 → jJ E yX3_digitsEnd.cls cX3_digitsEnd 3 (some .int) (jRm d) (jZ E (jD (some (ji (runW isDgB (I (q 0)) k i : Int))) (rdM I rd op s r) P)) 0 0 5 [some (jp rd), some (jp x), some (ji (i : Int))] [] (rdM I rd op s r) P := by
  have hx0 := hx.1
  have n1 : x ≠ rd := jne hx.1.2 h.1.2 (by decide)
  have n2 : x ≠ op := jne hx.1.2 h.2.2.2.1 (by decide)
  have n3 : q 0 ≠ rd := jne hx.2.2.1.2.1 h.1.2 (by decide)
  have e0 : rdM I rd op s r (q 0) = I (q 0) := funext (fun k => rdM_x n3 hq0 k)
  intro k
  induction k with
  | zero =>
    intro i hk hi
    refine jJ_iload_n (pc := 5) dX3_digitsEnd_5 rfl ?_
    refine jJ_aload_n (pc := 6) dX3_digitsEnd_6 rfl ?_
    refine jJ_geti (pc := 7) dX3_digitsEnd_7 fX3_76 rfl (by assumption) ?_
    rw [rdM_x n1 n2, hn]
    refine jJ_icmp_ge (pc := 10) (tgt := 30) dX3_digitsEnd_10 (by decide) (fun c10 => ?_) (fun c10 => ?_)
    · refine jJ_iload_n (pc := 30) dX3_digitsEnd_30 rfl ?_
      refine jJ_iret (pc := 31) dX3_digitsEnd_31 rfl ?_
      exact ⟨rfl, rfl, rfl⟩
    · exfalso
      omega
  | succ k ih =>
    intro i hk hi
    refine jJ_iload_n (pc := 5) dX3_digitsEnd_5 rfl ?_
    refine jJ_aload_n (pc := 6) dX3_digitsEnd_6 rfl ?_
    refine jJ_geti (pc := 7) dX3_digitsEnd_7 fX3_76 rfl (by assumption) ?_
    rw [rdM_x n1 n2, hn]
    refine jJ_icmp_ge (pc := 10) (tgt := 30) dX3_digitsEnd_10 (by decide) (fun c10 => ?_) (fun c10 => ?_)
    · exfalso
      omega
    · refine jJ_aload_n (pc := 13) dX3_digitsEnd_13 rfl ?_
      refine jJ_iload_n (pc := 14) dX3_digitsEnd_14 rfl ?_
      refine jJ_callVd (pc := 15) (as := [_]) dX3_digitsEnd_15 mX3_79 (jRcv_of (by assumption) rfl rfl) (Nat.le_of_ble_eq_true rfl) (jRm_ok (by omega) (by decide)) (c_Text_byteAt (d := d - 1) hx (by rw [rdM_x n1 n2, hn]; omega)) ?_
      rw [rdM_x n1 n2, e0, hn, tByte_in (by omega)]
      refine jJ_callSd (pc := 18) (as := [_]) dX3_digitsEnd_18 mX3_105 (Nat.le_of_ble_eq_true rfl) (jRm_ok (by omega) (by decide)) (c_isDigit (d := d - 1)) ?_
      refine jJ_if_eq (pc := 21) (tgt := 30) dX3_digitsEnd_21 (by decide) (fun c21 => ?_) (fun c21 => ?_)
      · simp only [jb_z] at c21
        refine jJ_iload_n (pc := 30) dX3_digitsEnd_30 rfl ?_
        refine jJ_iret (pc := 31) dX3_digitsEnd_31 rfl ?_
        exact ⟨by rw [runW, if_neg (by unfold isDgB; simpa using c21)], rfl, rfl⟩
      · simp only [jb_nz] at c21
        refine jJ_iinc (pc := 24) (ls' := [_, _, _]) dX3_digitsEnd_24 rfl ⟨by omega, by omega⟩ rfl ?_
        refine jJ_goto (pc := 27) (tgt := 5) dX3_digitsEnd_27 (by decide) ?_
        rw [runW, if_pos (by unfold isDgB; simpa using c21)]
        exact ih (i + 1) (by omega) (by omega)
theorem c_Rd_digitsEnd {x : Nat} {q : Nat → Nat} {n i : Nat} (h : RdL E P rd op) (hx : TxL E P x q) (hq0 : q 0 ≠ op) (hn : I x 9 = (n : Int)) (hn2 : n ≤ 800) (hi : s 8 = (i : Int)) (hi2 : i ≤ 800) (hd : 2 ≤ d) : jC E yX3_digitsEnd cX3_digitsEnd 3 (some .int) d [jp rd, jp x] (rdM I rd op s r) P (jD (some (ji (runW isDgB (I (q 0)) (n - i) i : Int))) (rdM I rd op s r) P) := by
  have h0 := h.1
  refine jC_intro (by decide +kernel) (by simp [jc, va_rf, Value.category]) (Nat.le_of_ble_eq_true rfl) ?_
  refine jJ_aload_n (pc := 0) dX3_digitsEnd_0 rfl ?_
  refine jJ_geti (pc := 1) dX3_digitsEnd_1 fX3_55 rfl (by assumption) ?_
  rw [rdM_g8, hi]
  refine jJ_istore_n (pc := 4) (ls' := [_, _, _]) dX3_digitsEnd_4 (Nat.le_of_ble_eq_true rfl) rfl ?_
  exact digitsEnd_loop h hx hq0 hn hn2 hd _ i rfl hi2
/-! one TOKEN, from a place on: where it begins, where it ends, its sort -/
def tkS (f : Nat → Int) (n i : Nat) : Nat := runW isBlB f (n - i) i
def isSgB (b : Int) : Bool := decide (b = 43 ∨ b = 45 ∨ b = 60 ∨ b = 61 ∨ b = 40 ∨ b = 41 ∨ b = 123 ∨ b = 125 ∨ b = 44 ∨ b = 59)
def isLtB (b : Int) : Bool := decide ((97 ≤ b ∧ b ≤ 122) ∨ (65 ≤ b ∧ b ≤ 90))
def tkE (f : Nat → Int) (n i : Nat) : Nat := if n ≤ tkS f n i then tkS f n i else if isLtB (f (tkS f n i)) = true then runW isWdB f (n - tkS f n i) (tkS f n i) else if isDgB (f (tkS f n i)) = true then runW isDgB f (n - tkS f n i) (tkS f n i) else tkS f n i + 1
def tkG (f : Nat → Int) (n i : Nat) : Int := if n ≤ tkS f n i then 8 else if isLtB (f (tkS f n i)) = true then wSort f 800 (tkS f n i : Int) (tkE f n i : Int) else if isDgB (f (tkS f n i)) = true then 2 else if isSgB (f (tkS f n i)) = true then f (tkS f n i) else 7
/-- the reader's numbers behind scan() -/
def scS (f : Nat → Int) (n : Nat) (s : Nat → Int) : Nat → Int := su (su (su s 8 (tkS f n (s 9).toNat : Int)) 9 (tkE f n (s 9).toNat : Int)) 10 (tkG f n (s 9).toNat)
theorem su_su (s : Nat → Int) (k : Nat) (v w : Int) : su (su s k v) k w = su s k w := by funext j; simp only [su]; split <;> rfl
theorem su_98 (s : Nat → Int) (v w : Int) : su (su s 9 v) 8 w = su (su s 8 w) 9 v := by funext j; simp only [su]; split <;> (split <;> first | rfl | (exfalso; omega) | rfl)
theorem scan_end {x : Nat} {q : Nat → Nat} {n t : Nat} {s0 : Nat → Int} {z : Option jV} (h : RdL E P rd op) (hx : TxL E P x q) (hq0 : q 0 ≠ op) (hn : I x 9 = (n : Int)) (hn2 : n ≤ 800) (ht : t ≤ 800) (ht2 : t = tkS (I (q 0)) n (s0 9).toNat) (hd : 7 ≤ d) :
    jJ E yX3_scan.cls cX3_scan 3 none (jRm d) (jZ E (jD none (rdM I rd op (scS (I (q 0)) n s0) r) P)) 0 0 46 [some (jp rd), some (jp x), z] [] (rdM I rd op (su s0 8 (t : Int)) r) P := by
  have h0 := h.1
  have hx0 := hx
  obtain ⟨g0, ⟨p0, -⟩, ⟨a0, -⟩⟩ := hx
  have n1 : x ≠ rd := jne g0.2 h.1.2 (by decide)
  have n2 : x ≠ op := jne g0.2 h.2.2.2.1 (by decide)
  have n3 : q 0 ≠ rd := jne a0.2.1 h.1.2 (by decide)
  have e0 : ∀ (s : Nat → Int) (r : Nat → Int), rdM I rd op s r (q 0) = I (q 0) := fun s r => funext (fun k => rdM_x n3 hq0 k)
  refine jJ_aload_n (pc := 46) dX3_scan_46 rfl ?_
  refine jJ_aload_n (pc := 47) dX3_scan_47 rfl ?_
  refine jJ_geti (pc := 48) dX3_scan_48 fX3_55 rfl (by assumption) ?_
  try simp only [rdM_g1, rdM_g2, rdM_g3, rdM_g4, rdM_g5, rdM_g6, rdM_g7, rdM_g8, rdM_g9, rdM_g10, rdM_p1, rdM_p2, rdM_p3, rdM_p4, rdM_p5, rdM_p6, rdM_p7, rdM_p8, rdM_p9, rdM_p10, rdM_r, rdM_w, su_s, su_1_2, su_1_3, su_1_4, su_1_5, su_1_6, su_1_7, su_1_8, su_1_9, su_1_10, su_2_1, su_2_3, su_2_4, su_2_5, su_2_6, su_2_7, su_2_8, su_2_9, su_2_10, su_3_1, su_3_2, su_3_4, su_3_5, su_3_6, su_3_7, su_3_8, su_3_9, su_3_10, su_4_1, su_4_2, su_4_3, su_4_5, su_4_6, su_4_7, su_4_8, su_4_9, su_4_10, su_5_1, su_5_2, su_5_3, su_5_4, su_5_6, su_5_7, su_5_8, su_5_9, su_5_10, su_6_1, su_6_2, su_6_3, su_6_4, su_6_5, su_6_7, su_6_8, su_6_9, su_6_10, su_7_1, su_7_2, su_7_3, su_7_4, su_7_5, su_7_6, su_7_8, su_7_9, su_7_10, su_8_1, su_8_2, su_8_3, su_8_4, su_8_5, su_8_6, su_8_7, su_8_9, su_8_10, su_9_1, su_9_2, su_9_3, su_9_4, su_9_5, su_9_6, su_9_7, su_9_8, su_9_10, su_10_1, su_10_2, su_10_3, su_10_4, su_10_5, su_10_6, su_10_7, su_10_8, su_10_9]
  refine jJ_puti (pc := 51) dX3_scan_51 fX3_38w rfl ⟨rfl, rfl⟩ (by assumption) ?_
  try simp only [rdM_g1, rdM_g2, rdM_g3, rdM_g4, rdM_g5, rdM_g6, rdM_g7, rdM_g8, rdM_g9, rdM_g10, rdM_p1, rdM_p2, rdM_p3, rdM_p4, rdM_p5, rdM_p6, rdM_p7, rdM_p8, rdM_p9, rdM_p10, rdM_r, rdM_w, su_s, su_1_2, su_1_3, su_1_4, su_1_5, su_1_6, su_1_7, su_1_8, su_1_9, su_1_10, su_2_1, su_2_3, su_2_4, su_2_5, su_2_6, su_2_7, su_2_8, su_2_9, su_2_10, su_3_1, su_3_2, su_3_4, su_3_5, su_3_6, su_3_7, su_3_8, su_3_9, su_3_10, su_4_1, su_4_2, su_4_3, su_4_5, su_4_6, su_4_7, su_4_8, su_4_9, su_4_10, su_5_1, su_5_2, su_5_3, su_5_4, su_5_6, su_5_7, su_5_8, su_5_9, su_5_10, su_6_1, su_6_2, su_6_3, su_6_4, su_6_5, su_6_7, su_6_8, su_6_9, su_6_10, su_7_1, su_7_2, su_7_3, su_7_4, su_7_5, su_7_6, su_7_8, su_7_9, su_7_10, su_8_1, su_8_2, su_8_3, su_8_4, su_8_5, su_8_6, su_8_7, su_8_9, su_8_10, su_9_1, su_9_2, su_9_3, su_9_4, su_9_5, su_9_6, su_9_7, su_9_8, su_9_10, su_10_1, su_10_2, su_10_3, su_10_4, su_10_5, su_10_6, su_10_7, su_10_8, su_10_9]
  refine jJ_aload_n (pc := 54) dX3_scan_54 rfl ?_
  refine jJ_geti (pc := 55) dX3_scan_55 fX3_55 rfl (by assumption) ?_
  try simp only [rdM_g1, rdM_g2, rdM_g3, rdM_g4, rdM_g5, rdM_g6, rdM_g7, rdM_g8, rdM_g9, rdM_g10, rdM_p1, rdM_p2, rdM_p3, rdM_p4, rdM_p5, rdM_p6, rdM_p7, rdM_p8, rdM_p9, rdM_p10, rdM_r, rdM_w, su_s, su_1_2, su_1_3, su_1_4, su_1_5, su_1_6, su_1_7, su_1_8, su_1_9, su_1_10, su_2_1, su_2_3, su_2_4, su_2_5, su_2_6, su_2_7, su_2_8, su_2_9, su_2_10, su_3_1, su_3_2, su_3_4, su_3_5, su_3_6, su_3_7, su_3_8, su_3_9, su_3_10, su_4_1, su_4_2, su_4_3, su_4_5, su_4_6, su_4_7, su_4_8, su_4_9, su_4_10, su_5_1, su_5_2, su_5_3, su_5_4, su_5_6, su_5_7, su_5_8, su_5_9, su_5_10, su_6_1, su_6_2, su_6_3, su_6_4, su_6_5, su_6_7, su_6_8, su_6_9, su_6_10, su_7_1, su_7_2, su_7_3, su_7_4, su_7_5, su_7_6, su_7_8, su_7_9, su_7_10, su_8_1, su_8_2, su_8_3, su_8_4, su_8_5, su_8_6, su_8_7, su_8_9, su_8_10, su_9_1, su_9_2, su_9_3, su_9_4, su_9_5, su_9_6, su_9_7, su_9_8, su_9_10, su_10_1, su_10_2, su_10_3, su_10_4, su_10_5, su_10_6, su_10_7, su_10_8, su_10_9]
  refine jJ_aload_n (pc := 58) dX3_scan_58 rfl ?_
  refine jJ_geti (pc := 59) dX3_scan_59 fX3_76 rfl (by assumption) ?_
  rw [rdM_x n1 n2, hn]
  refine jJ_icmp_lt (pc := 62) (tgt := 72) dX3_scan_62 (by decide) (fun c62 => ?_) (fun c62 => ?_)
  · refine jJ_aload_n (pc := 72) dX3_scan_72 rfl ?_
    refine jJ_aload_n (pc := 73) dX3_scan_73 rfl ?_
    refine jJ_geti (pc := 74) dX3_scan_74 fX3_55 rfl (by assumption) ?_
    try simp only [rdM_g1, rdM_g2, rdM_g3, rdM_g4, rdM_g5, rdM_g6, rdM_g7, rdM_g8, rdM_g9, rdM_g10, rdM_p1, rdM_p2, rdM_p3, rdM_p4, rdM_p5, rdM_p6, rdM_p7, rdM_p8, rdM_p9, rdM_p10, rdM_r, rdM_w, su_s, su_1_2, su_1_3, su_1_4, su_1_5, su_1_6, su_1_7, su_1_8, su_1_9, su_1_10, su_2_1, su_2_3, su_2_4, su_2_5, su_2_6, su_2_7, su_2_8, su_2_9, su_2_10, su_3_1, su_3_2, su_3_4, su_3_5, su_3_6, su_3_7, su_3_8, su_3_9, su_3_10, su_4_1, su_4_2, su_4_3, su_4_5, su_4_6, su_4_7, su_4_8, su_4_9, su_4_10, su_5_1, su_5_2, su_5_3, su_5_4, su_5_6, su_5_7, su_5_8, su_5_9, su_5_10, su_6_1, su_6_2, su_6_3, su_6_4, su_6_5, su_6_7, su_6_8, su_6_9, su_6_10, su_7_1, su_7_2, su_7_3, su_7_4, su_7_5, su_7_6, su_7_8, su_7_9, su_7_10, su_8_1, su_8_2, su_8_3, su_8_4, su_8_5, su_8_6, su_8_7, su_8_9, su_8_10, su_9_1, su_9_2, su_9_3, su_9_4, su_9_5, su_9_6, su_9_7, su_9_8, su_9_10, su_10_1, su_10_2, su_10_3, su_10_4, su_10_5, su_10_6, su_10_7, su_10_8, su_10_9]
    refine jJ_callVd (pc := 77) (as := [_]) dX3_scan_77 mX3_79 (jRcv_of (by assumption) rfl rfl) (Nat.le_of_ble_eq_true rfl) (jRm_ok (by omega) (by decide)) (c_Text_byteAt (d := d - 1) hx0 (by rw [rdM_x n1 n2, hn]; omega)) ?_
    rw [rdM_x n1 n2, e0, hn, tByte_in (by omega)]
    have hlt : ¬ n ≤ tkS (I (q 0)) n (s0 9).toNat := by omega
    have word : isLtB (I (q 0) t) = true → ∀ z, jJ E yX3_scan.cls cX3_scan 3 none (jRm d) (jZ E (jD none (rdM I rd op (scS (I (q 0)) n s0) r) P)) 0 0 95 [some (jp rd), some (jp x), z] [] (rdM I rd op (su (su s0 8 (t : Int)) 9 (t : Int)) r) P := by
      intro hlt2 z
      have hrun := runW_le isWdB (I (q 0)) (n - t) t
      refine jJ_aload_n (pc := 95) dX3_scan_95 rfl ?_
      refine jJ_aload_n (pc := 96) dX3_scan_96 rfl ?_
      refine jJ_aload_n (pc := 97) dX3_scan_97 rfl ?_
      refine jJ_callVd (pc := 98) (as := [_]) dX3_scan_98 mX3_93 (jRcv_of (by assumption) rfl rfl) (Nat.le_of_ble_eq_true rfl) (jRm_ok (by omega) (by decide)) (c_Rd_wordEnd (d := d - 1) h hx0 hq0 hn hn2 (i := t) (by simp only [su_8_9, su_s]) ht (by omega)) ?_
      refine jJ_puti (pc := 101) dX3_scan_101 fX3_38w rfl ⟨rfl, rfl⟩ (by assumption) ?_
      try simp only [rdM_g1, rdM_g2, rdM_g3, rdM_g4, rdM_g5, rdM_g6, rdM_g7, rdM_g8, rdM_g9, rdM_g10, rdM_p1, rdM_p2, rdM_p3, rdM_p4, rdM_p5, rdM_p6, rdM_p7, rdM_p8, rdM_p9, rdM_p10, rdM_r, rdM_w, su_s, su_1_2, su_1_3, su_1_4, su_1_5, su_1_6, su_1_7, su_1_8, su_1_9, su_1_10, su_2_1, su_2_3, su_2_4, su_2_5, su_2_6, su_2_7, su_2_8, su_2_9, su_2_10, su_3_1, su_3_2, su_3_4, su_3_5, su_3_6, su_3_7, su_3_8, su_3_9, su_3_10, su_4_1, su_4_2, su_4_3, su_4_5, su_4_6, su_4_7, su_4_8, su_4_9, su_4_10, su_5_1, su_5_2, su_5_3, su_5_4, su_5_6, su_5_7, su_5_8, su_5_9, su_5_10, su_6_1, su_6_2, su_6_3, su_6_4, su_6_5, su_6_7, su_6_8, su_6_9, su_6_10, su_7_1, su_7_2, su_7_3, su_7_4, su_7_5, su_7_6, su_7_8, su_7_9, su_7_10, su_8_1, su_8_2, su_8_3, su_8_4, su_8_5, su_8_6, su_8_7, su_8_9, su_8_10, su_9_1, su_9_2, su_9_3, su_9_4, su_9_5, su_9_6, su_9_7, su_9_8, su_9_10, su_10_1, su_10_2, su_10_3, su_10_4, su_10_5, su_10_6, su_10_7, su_10_8, su_10_9]
      refine jJ_aload_n (pc := 104) dX3_scan_104 rfl ?_
      refine jJ_aload_n (pc := 105) dX3_scan_105 rfl ?_
      refine jJ_getr (pc := 106) dX3_scan_106 fX3_97 rfl (by assumption) (by assumption) ?_
      refine jJ_aload_n (pc := 109) dX3_scan_109 rfl ?_
      refine jJ_geti (pc := 110) dX3_scan_110 fX3_55 rfl (by assumption) ?_
      try simp only [rdM_g1, rdM_g2, rdM_g3, rdM_g4, rdM_g5, rdM_g6, rdM_g7, rdM_g8, rdM_g9, rdM_g10, rdM_p1, rdM_p2, rdM_p3, rdM_p4, rdM_p5, rdM_p6, rdM_p7, rdM_p8, rdM_p9, rdM_p10, rdM_r, rdM_w, su_s, su_1_2, su_1_3, su_1_4, su_1_5, su_1_6, su_1_7, su_1_8, su_1_9, su_1_10, su_2_1, su_2_3, su_2_4, su_2_5, su_2_6, su_2_7, su_2_8, su_2_9, su_2_10, su_3_1, su_3_2, su_3_4, su_3_5, su_3_6, su_3_7, su_3_8, su_3_9, su_3_10, su_4_1, su_4_2, su_4_3, su_4_5, su_4_6, su_4_7, su_4_8, su_4_9, su_4_10, su_5_1, su_5_2, su_5_3, su_5_4, su_5_6, su_5_7, su_5_8, su_5_9, su_5_10, su_6_1, su_6_2, su_6_3, su_6_4, su_6_5, su_6_7, su_6_8, su_6_9, su_6_10, su_7_1, su_7_2, su_7_3, su_7_4, su_7_5, su_7_6, su_7_8, su_7_9, su_7_10, su_8_1, su_8_2, su_8_3, su_8_4, su_8_5, su_8_6, su_8_7, su_8_9, su_8_10, su_9_1, su_9_2, su_9_3, su_9_4, su_9_5, su_9_6, su_9_7, su_9_8, su_9_10, su_10_1, su_10_2, su_10_3, su_10_4, su_10_5, su_10_6, su_10_7, su_10_8, su_10_9]
      refine jJ_aload_n (pc := 113) dX3_scan_113 rfl ?_
      refine jJ_geti (pc := 114) dX3_scan_114 fX3_38 rfl (by assumption) ?_
      try simp only [rdM_g1, rdM_g2, rdM_g3, rdM_g4, rdM_g5, rdM_g6, rdM_g7, rdM_g8, rdM_g9, rdM_g10, rdM_p1, rdM_p2, rdM_p3, rdM_p4, rdM_p5, rdM_p6, rdM_p7, rdM_p8, rdM_p9, rdM_p10, rdM_r, rdM_w, su_s, su_1_2, su_1_3, su_1_4, su_1_5, su_1_6, su_1_7, su_1_8, su_1_9, su_1_10, su_2_1, su_2_3, su_2_4, su_2_5, su_2_6, su_2_7, su_2_8, su_2_9, su_2_10, su_3_1, su_3_2, su_3_4, su_3_5, su_3_6, su_3_7, su_3_8, su_3_9, su_3_10, su_4_1, su_4_2, su_4_3, su_4_5, su_4_6, su_4_7, su_4_8, su_4_9, su_4_10, su_5_1, su_5_2, su_5_3, su_5_4, su_5_6, su_5_7, su_5_8, su_5_9, su_5_10, su_6_1, su_6_2, su_6_3, su_6_4, su_6_5, su_6_7, su_6_8, su_6_9, su_6_10, su_7_1, su_7_2, su_7_3, su_7_4, su_7_5, su_7_6, su_7_8, su_7_9, su_7_10, su_8_1, su_8_2, su_8_3, su_8_4, su_8_5, su_8_6, su_8_7, su_8_9, su_8_10, su_9_1, su_9_2, su_9_3, su_9_4, su_9_5, su_9_6, su_9_7, su_9_8, su_9_10, su_10_1, su_10_2, su_10_3, su_10_4, su_10_5, su_10_6, su_10_7, su_10_8, su_10_9]
      refine jJ_callSd (pc := 117) (as := [_, _, _]) dX3_scan_117 mX3_101 (Nat.le_of_ble_eq_true rfl) (jRm_ok (by omega) (by decide)) (c_wordSort (d := d - 1) a0 (by decide) ⟨by omega, by omega⟩ ⟨by omega, by omega⟩ (by omega)) ?_
      rw [e0]
      refine jJ_puti (pc := 120) dX3_scan_120 fX3_45w rfl ⟨rfl, rfl⟩ (by assumption) ?_
      try simp only [rdM_g1, rdM_g2, rdM_g3, rdM_g4, rdM_g5, rdM_g6, rdM_g7, rdM_g8, rdM_g9, rdM_g10, rdM_p1, rdM_p2, rdM_p3, rdM_p4, rdM_p5, rdM_p6, rdM_p7, rdM_p8, rdM_p9, rdM_p10, rdM_r, rdM_w, su_s, su_1_2, su_1_3, su_1_4, su_1_5, su_1_6, su_1_7, su_1_8, su_1_9, su_1_10, su_2_1, su_2_3, su_2_4, su_2_5, su_2_6, su_2_7, su_2_8, su_2_9, su_2_10, su_3_1, su_3_2, su_3_4, su_3_5, su_3_6, su_3_7, su_3_8, su_3_9, su_3_10, su_4_1, su_4_2, su_4_3, su_4_5, su_4_6, su_4_7, su_4_8, su_4_9, su_4_10, su_5_1, su_5_2, su_5_3, su_5_4, su_5_6, su_5_7, su_5_8, su_5_9, su_5_10, su_6_1, su_6_2, su_6_3, su_6_4, su_6_5, su_6_7, su_6_8, su_6_9, su_6_10, su_7_1, su_7_2, su_7_3, su_7_4, su_7_5, su_7_6, su_7_8, su_7_9, su_7_10, su_8_1, su_8_2, su_8_3, su_8_4, su_8_5, su_8_6, su_8_7, su_8_9, su_8_10, su_9_1, su_9_2, su_9_3, su_9_4, su_9_5, su_9_6, su_9_7, su_9_8, su_9_10, su_10_1, su_10_2, su_10_3, su_10_4, su_10_5, su_10_6, su_10_7, su_10_8, su_10_9]
      refine jJ_goto (pc := 123) (tgt := 177) dX3_scan_123 (by decide) ?_
      refine jJ_vret (pc := 177) dX3_scan_177 rfl ?_
      refine ⟨rfl, ?_, rfl⟩
      unfold scS
      have e9 : tkE (I (q 0)) n (s0 9).toNat = runW isWdB (I (q 0)) (n - t) t := by unfold tkE; rw [if_neg hlt, ← ht2, if_pos hlt2]
      have e10 : tkG (I (q 0)) n (s0 9).toNat = wSort (I (q 0)) 800 (t : Int) (runW isWdB (I (q 0)) (n - t) t : Int) := by unfold tkG; rw [if_neg hlt, e9, ← ht2, if_pos hlt2]
      rw [e9, e10, ← ht2, su_su]
    refine jJ_istore_n (pc := 80) (ls' := [_, _, _]) dX3_scan_80 (Nat.le_of_ble_eq_true rfl) rfl ?_
    refine jJ_iload_n (pc := 81) dX3_scan_81 rfl ?_
    refine jJ_callSd (pc := 82) (as := [_]) dX3_scan_82 mX3_87 (Nat.le_of_ble_eq_true rfl) (jRm_ok (by omega) (by decide)) (c_isSmall (d := d - 1)) ?_
    refine jJ_if_ne (pc := 85) (tgt := 95) dX3_scan_85 (by decide) (fun c85 => ?_) (fun c85 => ?_)
    · simp only [jb_nz] at c85
      exact word (by unfold isLtB; simp [c85]) _
    · simp only [jb_z] at c85
      refine jJ_iload_n (pc := 88) dX3_scan_88 rfl ?_
      refine jJ_callSd (pc := 89) (as := [_]) dX3_scan_89 mX3_90 (Nat.le_of_ble_eq_true rfl) (jRm_ok (by omega) (by decide)) (c_isGreat (d := d - 1)) ?_
      refine jJ_if_eq (pc := 92) (tgt := 126) dX3_scan_92 (by decide) (fun c92 => ?_) (fun c92 => ?_)
      · simp only [jb_z] at c92
        have hl2 : ¬ isLtB (I (q 0) t) = true := by unfold isLtB; simpa using ⟨fun a => by omega, fun a => by omega⟩
        refine jJ_iload_n (pc := 126) dX3_scan_126 rfl ?_
        refine jJ_callSd (pc := 127) (as := [_]) dX3_scan_127 mX3_105 (Nat.le_of_ble_eq_true rfl) (jRm_ok (by omega) (by decide)) (c_isDigit (d := d - 1)) ?_
        refine jJ_if_eq (pc := 130) (tgt := 150) dX3_scan_130 (by decide) (fun c130 => ?_) (fun c130 => ?_)
        · simp only [jb_z] at c130
          have hl3 : ¬ isDgB (I (q 0) t) = true := by unfold isDgB; simpa using c130
          have e9 : tkE (I (q 0)) n (s0 9).toNat = t + 1 := by unfold tkE; rw [if_neg hlt, ← ht2, if_neg hl2, if_neg hl3]
          refine jJ_aload_n (pc := 150) dX3_scan_150 rfl ?_
          refine jJ_aload_n (pc := 151) dX3_scan_151 rfl ?_
          refine jJ_geti (pc := 152) dX3_scan_152 fX3_55 rfl (by assumption) ?_
          try simp only [rdM_g1, rdM_g2, rdM_g3, rdM_g4, rdM_g5, rdM_g6, rdM_g7, rdM_g8, rdM_g9, rdM_g10, rdM_p1, rdM_p2, rdM_p3, rdM_p4, rdM_p5, rdM_p6, rdM_p7, rdM_p8, rdM_p9, rdM_p10, rdM_r, rdM_w, su_s, su_1_2, su_1_3, su_1_4, su_1_5, su_1_6, su_1_7, su_1_8, su_1_9, su_1_10, su_2_1, su_2_3, su_2_4, su_2_5, su_2_6, su_2_7, su_2_8, su_2_9, su_2_10, su_3_1, su_3_2, su_3_4, su_3_5, su_3_6, su_3_7, su_3_8, su_3_9, su_3_10, su_4_1, su_4_2, su_4_3, su_4_5, su_4_6, su_4_7, su_4_8, su_4_9, su_4_10, su_5_1, su_5_2, su_5_3, su_5_4, su_5_6, su_5_7, su_5_8, su_5_9, su_5_10, su_6_1, su_6_2, su_6_3, su_6_4, su_6_5, su_6_7, su_6_8, su_6_9, su_6_10, su_7_1, su_7_2, su_7_3, su_7_4, su_7_5, su_7_6, su_7_8, su_7_9, su_7_10, su_8_1, su_8_2, su_8_3, su_8_4, su_8_5, su_8_6, su_8_7, su_8_9, su_8_10, su_9_1, su_9_2, su_9_3, su_9_4, su_9_5, su_9_6, su_9_7, su_9_8, su_9_10, su_10_1, su_10_2, su_10_3, su_10_4, su_10_5, su_10_6, su_10_7, su_10_8, su_10_9]
          refine jJ_iconst (pc := 155) dX3_scan_155 (by decide) ?_
          refine jJ_iadd (pc := 156) dX3_scan_156 ⟨by omega, by omega⟩ ?_
          refine jJ_puti (pc := 157) dX3_scan_157 fX3_38w rfl ⟨rfl, rfl⟩ (by assumption) ?_
          try simp only [rdM_g1, rdM_g2, rdM_g3, rdM_g4, rdM_g5, rdM_g6, rdM_g7, rdM_g8, rdM_g9, rdM_g10, rdM_p1, rdM_p2, rdM_p3, rdM_p4, rdM_p5, rdM_p6, rdM_p7, rdM_p8, rdM_p9, rdM_p10, rdM_r, rdM_w, su_s, su_1_2, su_1_3, su_1_4, su_1_5, su_1_6, su_1_7, su_1_8, su_1_9, su_1_10, su_2_1, su_2_3, su_2_4, su_2_5, su_2_6, su_2_7, su_2_8, su_2_9, su_2_10, su_3_1, su_3_2, su_3_4, su_3_5, su_3_6, su_3_7, su_3_8, su_3_9, su_3_10, su_4_1, su_4_2, su_4_3, su_4_5, su_4_6, su_4_7, su_4_8, su_4_9, su_4_10, su_5_1, su_5_2, su_5_3, su_5_4, su_5_6, su_5_7, su_5_8, su_5_9, su_5_10, su_6_1, su_6_2, su_6_3, su_6_4, su_6_5, su_6_7, su_6_8, su_6_9, su_6_10, su_7_1, su_7_2, su_7_3, su_7_4, su_7_5, su_7_6, su_7_8, su_7_9, su_7_10, su_8_1, su_8_2, su_8_3, su_8_4, su_8_5, su_8_6, su_8_7, su_8_9, su_8_10, su_9_1, su_9_2, su_9_3, su_9_4, su_9_5, su_9_6, su_9_7, su_9_8, su_9_10, su_10_1, su_10_2, su_10_3, su_10_4, su_10_5, su_10_6, su_10_7, su_10_8, su_10_9]
          refine jJ_aload_n (pc := 160) dX3_scan_160 rfl ?_
          refine jJ_iload_n (pc := 161) dX3_scan_161 rfl ?_
          refine jJ_callSd (pc := 162) (as := [_]) dX3_scan_162 mX3_111 (Nat.le_of_ble_eq_true rfl) (jRm_ok (by omega) (by decide)) (c_Rd_isSign (d := d - 1) (by omega)) ?_
          refine jJ_if_eq (pc := 165) (tgt := 172) dX3_scan_165 (by decide) (fun c165 => ?_) (fun c165 => ?_)
          · simp only [jb_z] at c165
            refine jJ_bipush (pc := 172) dX3_scan_172 (by decide) ?_
            refine jJ_puti (pc := 174) dX3_scan_174 fX3_45w rfl ⟨rfl, rfl⟩ (by assumption) ?_
            try simp only [rdM_g1, rdM_g2, rdM_g3, rdM_g4, rdM_g5, rdM_g6, rdM_g7, rdM_g8, rdM_g9, rdM_g10, rdM_p1, rdM_p2, rdM_p3, rdM_p4, rdM_p5, rdM_p6, rdM_p7, rdM_p8, rdM_p9, rdM_p10, rdM_r, rdM_w, su_s, su_1_2, su_1_3, su_1_4, su_1_5, su_1_6, su_1_7, su_1_8, su_1_9, su_1_10, su_2_1, su_2_3, su_2_4, su_2_5, su_2_6, su_2_7, su_2_8, su_2_9, su_2_10, su_3_1, su_3_2, su_3_4, su_3_5, su_3_6, su_3_7, su_3_8, su_3_9, su_3_10, su_4_1, su_4_2, su_4_3, su_4_5, su_4_6, su_4_7, su_4_8, su_4_9, su_4_10, su_5_1, su_5_2, su_5_3, su_5_4, su_5_6, su_5_7, su_5_8, su_5_9, su_5_10, su_6_1, su_6_2, su_6_3, su_6_4, su_6_5, su_6_7, su_6_8, su_6_9, su_6_10, su_7_1, su_7_2, su_7_3, su_7_4, su_7_5, su_7_6, su_7_8, su_7_9, su_7_10, su_8_1, su_8_2, su_8_3, su_8_4, su_8_5, su_8_6, su_8_7, su_8_9, su_8_10, su_9_1, su_9_2, su_9_3, su_9_4, su_9_5, su_9_6, su_9_7, su_9_8, su_9_10, su_10_1, su_10_2, su_10_3, su_10_4, su_10_5, su_10_6, su_10_7, su_10_8, su_10_9]
            refine jJ_vret (pc := 177) dX3_scan_177 rfl ?_
            refine ⟨rfl, ?_, rfl⟩
            have e10 : tkG (I (q 0)) n (s0 9).toNat = 7 := by unfold tkG; rw [if_neg hlt, ← ht2, if_neg hl2, if_neg hl3, if_neg (by unfold isSgB; simpa using c165)]
            unfold scS
            rw [e9, e10, ← ht2, su_su]
            simp only [Int.natCast_add, Int.cast_ofNat_Int]
          · simp only [jb_nz] at c165
            refine jJ_iload_n (pc := 168) dX3_scan_168 rfl ?_
            refine jJ_goto (pc := 169) (tgt := 174) dX3_scan_169 (by decide) ?_
            refine jJ_puti (pc := 174) dX3_scan_174 fX3_45w rfl ⟨rfl, rfl⟩ (by assumption) ?_
            try simp only [rdM_g1, rdM_g2, rdM_g3, rdM_g4, rdM_g5, rdM_g6, rdM_g7, rdM_g8, rdM_g9, rdM_g10, rdM_p1, rdM_p2, rdM_p3, rdM_p4, rdM_p5, rdM_p6, rdM_p7, rdM_p8, rdM_p9, rdM_p10, rdM_r, rdM_w, su_s, su_1_2, su_1_3, su_1_4, su_1_5, su_1_6, su_1_7, su_1_8, su_1_9, su_1_10, su_2_1, su_2_3, su_2_4, su_2_5, su_2_6, su_2_7, su_2_8, su_2_9, su_2_10, su_3_1, su_3_2, su_3_4, su_3_5, su_3_6, su_3_7, su_3_8, su_3_9, su_3_10, su_4_1, su_4_2, su_4_3, su_4_5, su_4_6, su_4_7, su_4_8, su_4_9, su_4_10, su_5_1, su_5_2, su_5_3, su_5_4, su_5_6, su_5_7, su_5_8, su_5_9, su_5_10, su_6_1, su_6_2, su_6_3, su_6_4, su_6_5, su_6_7, su_6_8, su_6_9, su_6_10, su_7_1, su_7_2, su_7_3, su_7_4, su_7_5, su_7_6, su_7_8, su_7_9, su_7_10, su_8_1, su_8_2, su_8_3, su_8_4, su_8_5, su_8_6, su_8_7, su_8_9, su_8_10, su_9_1, su_9_2, su_9_3, su_9_4, su_9_5, su_9_6, su_9_7, su_9_8, su_9_10, su_10_1, su_10_2, su_10_3, su_10_4, su_10_5, su_10_6, su_10_7, su_10_8, su_10_9]
            refine jJ_vret (pc := 177) dX3_scan_177 rfl ?_
            refine ⟨rfl, ?_, rfl⟩
            have e10 : tkG (I (q 0)) n (s0 9).toNat = I (q 0) t := by unfold tkG; rw [if_neg hlt, ← ht2, if_neg hl2, if_neg hl3, if_pos (by unfold isSgB; simpa using c165)]
            unfold scS
            rw [e9, e10, ← ht2, su_su]
            simp only [Int.natCast_add, Int.cast_ofNat_Int]
        · simp only [jb_nz] at c130
          have hl3 : isDgB (I (q 0) t) = true := by unfold isDgB; simpa using c130
          have hrun := runW_le isDgB (I (q 0)) (n - t) t
          refine jJ_aload_n (pc := 133) dX3_scan_133 rfl ?_
          refine jJ_aload_n (pc := 134) dX3_scan_134 rfl ?_
          refine jJ_aload_n (pc := 135) dX3_scan_135 rfl ?_
          refine jJ_callVd (pc := 136) (as := [_]) dX3_scan_136 mX3_108 (jRcv_of (by assumption) rfl rfl) (Nat.le_of_ble_eq_true rfl) (jRm_ok (by omega) (by decide)) (c_Rd_digitsEnd (d := d - 1) h hx0 hq0 hn hn2 (i := t) (by simp only [su_8_9, su_s]) ht (by omega)) ?_
          refine jJ_puti (pc := 139) dX3_scan_139 fX3_38w rfl ⟨rfl, rfl⟩ (by assumption) ?_
          try simp only [rdM_g1, rdM_g2, rdM_g3, rdM_g4, rdM_g5, rdM_g6, rdM_g7, rdM_g8, rdM_g9, rdM_g10, rdM_p1, rdM_p2, rdM_p3, rdM_p4, rdM_p5, rdM_p6, rdM_p7, rdM_p8, rdM_p9, rdM_p10, rdM_r, rdM_w, su_s, su_1_2, su_1_3, su_1_4, su_1_5, su_1_6, su_1_7, su_1_8, su_1_9, su_1_10, su_2_1, su_2_3, su_2_4, su_2_5, su_2_6, su_2_7, su_2_8, su_2_9, su_2_10, su_3_1, su_3_2, su_3_4, su_3_5, su_3_6, su_3_7, su_3_8, su_3_9, su_3_10, su_4_1, su_4_2, su_4_3, su_4_5, su_4_6, su_4_7, su_4_8, su_4_9, su_4_10, su_5_1, su_5_2, su_5_3, su_5_4, su_5_6, su_5_7, su_5_8, su_5_9, su_5_10, su_6_1, su_6_2, su_6_3, su_6_4, su_6_5, su_6_7, su_6_8, su_6_9, su_6_10, su_7_1, su_7_2, su_7_3, su_7_4, su_7_5, su_7_6, su_7_8, su_7_9, su_7_10, su_8_1, su_8_2, su_8_3, su_8_4, su_8_5, su_8_6, su_8_7, su_8_9, su_8_10, su_9_1, su_9_2, su_9_3, su_9_4, su_9_5, su_9_6, su_9_7, su_9_8, su_9_10, su_10_1, su_10_2, su_10_3, su_10_4, su_10_5, su_10_6, su_10_7, su_10_8, su_10_9]
          refine jJ_aload_n (pc := 142) dX3_scan_142 rfl ?_
          refine jJ_iconst (pc := 143) dX3_scan_143 (by decide) ?_
          refine jJ_puti (pc := 144) dX3_scan_144 fX3_45w rfl ⟨rfl, rfl⟩ (by assumption) ?_
          try simp only [rdM_g1, rdM_g2, rdM_g3, rdM_g4, rdM_g5, rdM_g6, rdM_g7, rdM_g8, rdM_g9, rdM_g10, rdM_p1, rdM_p2, rdM_p3, rdM_p4, rdM_p5, rdM_p6, rdM_p7, rdM_p8, rdM_p9, rdM_p10, rdM_r, rdM_w, su_s, su_1_2, su_1_3, su_1_4, su_1_5, su_1_6, su_1_7, su_1_8, su_1_9, su_1_10, su_2_1, su_2_3, su_2_4, su_2_5, su_2_6, su_2_7, su_2_8, su_2_9, su_2_10, su_3_1, su_3_2, su_3_4, su_3_5, su_3_6, su_3_7, su_3_8, su_3_9, su_3_10, su_4_1, su_4_2, su_4_3, su_4_5, su_4_6, su_4_7, su_4_8, su_4_9, su_4_10, su_5_1, su_5_2, su_5_3, su_5_4, su_5_6, su_5_7, su_5_8, su_5_9, su_5_10, su_6_1, su_6_2, su_6_3, su_6_4, su_6_5, su_6_7, su_6_8, su_6_9, su_6_10, su_7_1, su_7_2, su_7_3, su_7_4, su_7_5, su_7_6, su_7_8, su_7_9, su_7_10, su_8_1, su_8_2, su_8_3, su_8_4, su_8_5, su_8_6, su_8_7, su_8_9, su_8_10, su_9_1, su_9_2, su_9_3, su_9_4, su_9_5, su_9_6, su_9_7, su_9_8, su_9_10, su_10_1, su_10_2, su_10_3, su_10_4, su_10_5, su_10_6, su_10_7, su_10_8, su_10_9]
          refine jJ_goto (pc := 147) (tgt := 177) dX3_scan_147 (by decide) ?_
          refine jJ_vret (pc := 177) dX3_scan_177 rfl ?_
          refine ⟨rfl, ?_, rfl⟩
          have e9 : tkE (I (q 0)) n (s0 9).toNat = runW isDgB (I (q 0)) (n - t) t := by unfold tkE; rw [if_neg hlt, ← ht2, if_neg hl2, if_pos hl3]
          have e10 : tkG (I (q 0)) n (s0 9).toNat = 2 := by unfold tkG; rw [if_neg hlt, ← ht2, if_neg hl2, if_pos hl3]
          unfold scS
          rw [e9, e10, ← ht2, su_su]
      · simp only [jb_nz] at c92
        exact word (by unfold isLtB; simp [c92]) _
  · refine jJ_aload_n (pc := 65) dX3_scan_65 rfl ?_
    refine jJ_bipush (pc := 66) dX3_scan_66 (by decide) ?_
    refine jJ_puti (pc := 68) dX3_scan_68 fX3_45w rfl ⟨rfl, rfl⟩ (by assumption) ?_
    try simp only [rdM_g1, rdM_g2, rdM_g3, rdM_g4, rdM_g5, rdM_g6, rdM_g7, rdM_g8, rdM_g9, rdM_g10, rdM_p1, rdM_p2, rdM_p3, rdM_p4, rdM_p5, rdM_p6, rdM_p7, rdM_p8, rdM_p9, rdM_p10, rdM_r, rdM_w, su_s, su_1_2, su_1_3, su_1_4, su_1_5, su_1_6, su_1_7, su_1_8, su_1_9, su_1_10, su_2_1, su_2_3, su_2_4, su_2_5, su_2_6, su_2_7, su_2_8, su_2_9, su_2_10, su_3_1, su_3_2, su_3_4, su_3_5, su_3_6, su_3_7, su_3_8, su_3_9, su_3_10, su_4_1, su_4_2, su_4_3, su_4_5, su_4_6, su_4_7, su_4_8, su_4_9, su_4_10, su_5_1, su_5_2, su_5_3, su_5_4, su_5_6, su_5_7, su_5_8, su_5_9, su_5_10, su_6_1, su_6_2, su_6_3, su_6_4, su_6_5, su_6_7, su_6_8, su_6_9, su_6_10, su_7_1, su_7_2, su_7_3, su_7_4, su_7_5, su_7_6, su_7_8, su_7_9, su_7_10, su_8_1, su_8_2, su_8_3, su_8_4, su_8_5, su_8_6, su_8_7, su_8_9, su_8_10, su_9_1, su_9_2, su_9_3, su_9_4, su_9_5, su_9_6, su_9_7, su_9_8, su_9_10, su_10_1, su_10_2, su_10_3, su_10_4, su_10_5, su_10_6, su_10_7, su_10_8, su_10_9]
    refine jJ_vret (pc := 71) dX3_scan_71 rfl ?_
    refine ⟨rfl, ?_, rfl⟩
    have hge : n ≤ tkS (I (q 0)) n (s0 9).toNat := by omega
    have e9 : tkE (I (q 0)) n (s0 9).toNat = t := by unfold tkE; rw [if_pos hge, ← ht2]
    have e10 : tkG (I (q 0)) n (s0 9).toNat = 8 := by unfold tkG; rw [if_pos hge]
    unfold scS
    rw [e9, e10, ← ht2]
theorem scan_loop {x : Nat} {q : Nat → Nat} {n : Nat} {s0 : Nat → Int} {z : Option jV} (h : RdL E P rd op) (hx : TxL E P x q) (hq0 : q 0 ≠ op) (hn : I x 9 = (n : Int)) (hn2 : n ≤ 800) (hd : 7 ≤ d) :
    ∀ (k i : Nat), k = n - i → i ≤ 800 → runW isBlB (I (q 0)) k i = tkS (I (q 0)) n (s0 9).toNat → jJ E yX3_scan.cls cX3_scan 3 none (jRm d) (jZ E (jD none (rdM I rd op (scS (I (q 0)) n s0) r) P)) 0 0 8 [some (jp rd), some (jp x), z] [] (rdM I rd op (su s0 8 (i : Int)) r) P := by
  have h0 := h.1
  have hx0 := hx
  obtain ⟨g0, ⟨p0, -⟩, ⟨a0, -⟩⟩ := hx
  have n1 : x ≠ rd := jne g0.2 h.1.2 (by decide)
  have n2 : x ≠ op := jne g0.2 h.2.2.2.1 (by decide)
  have n3 : q 0 ≠ rd := jne a0.2.1 h.1.2 (by decide)
  have e0 : ∀ (s : Nat → Int) (r : Nat → Int), rdM I rd op s r (q 0) = I (q 0) := fun s r => funext (fun k => rdM_x n3 hq0 k)
  intro k
  induction k with
  | zero =>
    intro i hk hi hrun
    refine jJ_aload_n (pc := 8) dX3_scan_8 rfl ?_
    refine jJ_geti (pc := 9) dX3_scan_9 fX3_55 rfl (by assumption) ?_
    try simp only [rdM_g1, rdM_g2, rdM_g3, rdM_g4, rdM_g5, rdM_g6, rdM_g7, rdM_g8, rdM_g9, rdM_g10, rdM_p1, rdM_p2, rdM_p3, rdM_p4, rdM_p5, rdM_p6, rdM_p7, rdM_p8, rdM_p9, rdM_p10, rdM_r, rdM_w, su_s, su_1_2, su_1_3, su_1_4, su_1_5, su_1_6, su_1_7, su_1_8, su_1_9, su_1_10, su_2_1, su_2_3, su_2_4, su_2_5, su_2_6, su_2_7, su_2_8, su_2_9, su_2_10, su_3_1, su_3_2, su_3_4, su_3_5, su_3_6, su_3_7, su_3_8, su_3_9, su_3_10, su_4_1, su_4_2, su_4_3, su_4_5, su_4_6, su_4_7, su_4_8, su_4_9, su_4_10, su_5_1, su_5_2, su_5_3, su_5_4, su_5_6, su_5_7, su_5_8, su_5_9, su_5_10, su_6_1, su_6_2, su_6_3, su_6_4, su_6_5, su_6_7, su_6_8, su_6_9, su_6_10, su_7_1, su_7_2, su_7_3, su_7_4, su_7_5, su_7_6, su_7_8, su_7_9, su_7_10, su_8_1, su_8_2, su_8_3, su_8_4, su_8_5, su_8_6, su_8_7, su_8_9, su_8_10, su_9_1, su_9_2, su_9_3, su_9_4, su_9_5, su_9_6, su_9_7, su_9_8, su_9_10, su_10_1, su_10_2, su_10_3, su_10_4, su_10_5, su_10_6, su_10_7, su_10_8, su_10_9]
    refine jJ_aload_n (pc := 12) dX3_scan_12 rfl ?_
    refine jJ_geti (pc := 13) dX3_scan_13 fX3_76 rfl (by assumption) ?_
    rw [rdM_x n1 n2, hn]
    refine jJ_icmp_ge (pc := 16) (tgt := 46) dX3_scan_16 (by decide) (fun c16 => ?_) (fun c16 => ?_)
    · exact scan_end h hx0 hq0 hn hn2 hi hrun hd
    · exfalso
      omega
  | succ k ih =>
    intro i hk hi hrun
    refine jJ_aload_n (pc := 8) dX3_scan_8 rfl ?_
    refine jJ_geti (pc := 9) dX3_scan_9 fX3_55 rfl (by assumption) ?_
    try simp only [rdM_g1, rdM_g2, rdM_g3, rdM_g4, rdM_g5, rdM_g6, rdM_g7, rdM_g8, rdM_g9, rdM_g10, rdM_p1, rdM_p2, rdM_p3, rdM_p4, rdM_p5, rdM_p6, rdM_p7, rdM_p8, rdM_p9, rdM_p10, rdM_r, rdM_w, su_s, su_1_2, su_1_3, su_1_4, su_1_5, su_1_6, su_1_7, su_1_8, su_1_9, su_1_10, su_2_1, su_2_3, su_2_4, su_2_5, su_2_6, su_2_7, su_2_8, su_2_9, su_2_10, su_3_1, su_3_2, su_3_4, su_3_5, su_3_6, su_3_7, su_3_8, su_3_9, su_3_10, su_4_1, su_4_2, su_4_3, su_4_5, su_4_6, su_4_7, su_4_8, su_4_9, su_4_10, su_5_1, su_5_2, su_5_3, su_5_4, su_5_6, su_5_7, su_5_8, su_5_9, su_5_10, su_6_1, su_6_2, su_6_3, su_6_4, su_6_5, su_6_7, su_6_8, su_6_9, su_6_10, su_7_1, su_7_2, su_7_3, su_7_4, su_7_5, su_7_6, su_7_8, su_7_9, su_7_10, su_8_1, su_8_2, su_8_3, su_8_4, su_8_5, su_8_6, su_8_7, su_8_9, su_8_10, su_9_1, su_9_2, su_9_3, su_9_4, su_9_5, su_9_6, su_9_7, su_9_8, su_9_10, su_10_1, su_10_2, su_10_3, su_10_4, su_10_5, su_10_6, su_10_7, su_10_8, su_10_9]
    refine jJ_aload_n (pc := 12) dX3_scan_12 rfl ?_
    refine jJ_geti (pc := 13) dX3_scan_13 fX3_76 rfl (by assumption) ?_
    rw [rdM_x n1 n2, hn]
    refine jJ_icmp_ge (pc := 16) (tgt := 46) dX3_scan_16 (by decide) (fun c16 => ?_) (fun c16 => ?_)
    · exfalso
      omega
    · refine jJ_aload_n (pc := 19) dX3_scan_19 rfl ?_
      refine jJ_aload_n (pc := 20) dX3_scan_20 rfl ?_
      refine jJ_geti (pc := 21) dX3_scan_21 fX3_55 rfl (by assumption) ?_
      try simp only [rdM_g1, rdM_g2, rdM_g3, rdM_g4, rdM_g5, rdM_g6, rdM_g7, rdM_g8, rdM_g9, rdM_g10, rdM_p1, rdM_p2, rdM_p3, rdM_p4, rdM_p5, rdM_p6, rdM_p7, rdM_p8, rdM_p9, rdM_p10, rdM_r, rdM_w, su_s, su_1_2, su_1_3, su_1_4, su_1_5, su_1_6, su_1_7, su_1_8, su_1_9, su_1_10, su_2_1, su_2_3, su_2_4, su_2_5, su_2_6, su_2_7, su_2_8, su_2_9, su_2_10, su_3_1, su_3_2, su_3_4, su_3_5, su_3_6, su_3_7, su_3_8, su_3_9, su_3_10, su_4_1, su_4_2, su_4_3, su_4_5, su_4_6, su_4_7, su_4_8, su_4_9, su_4_10, su_5_1, su_5_2, su_5_3, su_5_4, su_5_6, su_5_7, su_5_8, su_5_9, su_5_10, su_6_1, su_6_2, su_6_3, su_6_4, su_6_5, su_6_7, su_6_8, su_6_9, su_6_10, su_7_1, su_7_2, su_7_3, su_7_4, su_7_5, su_7_6, su_7_8, su_7_9, su_7_10, su_8_1, su_8_2, su_8_3, su_8_4, su_8_5, su_8_6, su_8_7, su_8_9, su_8_10, su_9_1, su_9_2, su_9_3, su_9_4, su_9_5, su_9_6, su_9_7, su_9_8, su_9_10, su_10_1, su_10_2, su_10_3, su_10_4, su_10_5, su_10_6, su_10_7, su_10_8, su_10_9]
      refine jJ_callVd (pc := 24) (as := [_]) dX3_scan_24 mX3_79 (jRcv_of (by assumption) rfl rfl) (Nat.le_of_ble_eq_true rfl) (jRm_ok (by omega) (by decide)) (c_Text_byteAt (d := d - 1) hx0 (by rw [rdM_x n1 n2, hn]; omega)) ?_
      rw [rdM_x n1 n2, e0, hn, tByte_in (by omega)]
      refine jJ_callSd (pc := 27) (as := [_]) dX3_scan_27 mX3_83 (Nat.le_of_ble_eq_true rfl) (jRm_ok (by omega) (by decide)) (c_Rd_isBlank (d := d - 1)) ?_
      refine jJ_if_eq (pc := 30) (tgt := 46) dX3_scan_30 (by decide) (fun c30 => ?_) (fun c30 => ?_)
      · simp only [jb_z] at c30
        rw [runW, if_neg (by unfold isBlB; simpa using c30)] at hrun
        exact scan_end h hx0 hq0 hn hn2 hi hrun hd
      · simp only [jb_nz] at c30
        refine jJ_aload_n (pc := 33) dX3_scan_33 rfl ?_
        refine jJ_dup (pc := 34) dX3_scan_34 rfl ?_
        refine jJ_geti (pc := 35) dX3_scan_35 fX3_55 rfl (by assumption) ?_
        try simp only [rdM_g1, rdM_g2, rdM_g3, rdM_g4, rdM_g5, rdM_g6, rdM_g7, rdM_g8, rdM_g9, rdM_g10, rdM_p1, rdM_p2, rdM_p3, rdM_p4, rdM_p5, rdM_p6, rdM_p7, rdM_p8, rdM_p9, rdM_p10, rdM_r, rdM_w, su_s, su_1_2, su_1_3, su_1_4, su_1_5, su_1_6, su_1_7, su_1_8, su_1_9, su_1_10, su_2_1, su_2_3, su_2_4, su_2_5, su_2_6, su_2_7, su_2_8, su_2_9, su_2_10, su_3_1, su_3_2, su_3_4, su_3_5, su_3_6, su_3_7, su_3_8, su_3_9, su_3_10, su_4_1, su_4_2, su_4_3, su_4_5, su_4_6, su_4_7, su_4_8, su_4_9, su_4_10, su_5_1, su_5_2, su_5_3, su_5_4, su_5_6, su_5_7, su_5_8, su_5_9, su_5_10, su_6_1, su_6_2, su_6_3, su_6_4, su_6_5, su_6_7, su_6_8, su_6_9, su_6_10, su_7_1, su_7_2, su_7_3, su_7_4, su_7_5, su_7_6, su_7_8, su_7_9, su_7_10, su_8_1, su_8_2, su_8_3, su_8_4, su_8_5, su_8_6, su_8_7, su_8_9, su_8_10, su_9_1, su_9_2, su_9_3, su_9_4, su_9_5, su_9_6, su_9_7, su_9_8, su_9_10, su_10_1, su_10_2, su_10_3, su_10_4, su_10_5, su_10_6, su_10_7, su_10_8, su_10_9]
        refine jJ_iconst (pc := 38) dX3_scan_38 (by decide) ?_
        refine jJ_iadd (pc := 39) dX3_scan_39 ⟨by omega, by omega⟩ ?_
        refine jJ_puti (pc := 40) dX3_scan_40 fX3_55w rfl ⟨rfl, rfl⟩ (by assumption) ?_
        try simp only [rdM_g1, rdM_g2, rdM_g3, rdM_g4, rdM_g5, rdM_g6, rdM_g7, rdM_g8, rdM_g9, rdM_g10, rdM_p1, rdM_p2, rdM_p3, rdM_p4, rdM_p5, rdM_p6, rdM_p7, rdM_p8, rdM_p9, rdM_p10, rdM_r, rdM_w, su_s, su_1_2, su_1_3, su_1_4, su_1_5, su_1_6, su_1_7, su_1_8, su_1_9, su_1_10, su_2_1, su_2_3, su_2_4, su_2_5, su_2_6, su_2_7, su_2_8, su_2_9, su_2_10, su_3_1, su_3_2, su_3_4, su_3_5, su_3_6, su_3_7, su_3_8, su_3_9, su_3_10, su_4_1, su_4_2, su_4_3, su_4_5, su_4_6, su_4_7, su_4_8, su_4_9, su_4_10, su_5_1, su_5_2, su_5_3, su_5_4, su_5_6, su_5_7, su_5_8, su_5_9, su_5_10, su_6_1, su_6_2, su_6_3, su_6_4, su_6_5, su_6_7, su_6_8, su_6_9, su_6_10, su_7_1, su_7_2, su_7_3, su_7_4, su_7_5, su_7_6, su_7_8, su_7_9, su_7_10, su_8_1, su_8_2, su_8_3, su_8_4, su_8_5, su_8_6, su_8_7, su_8_9, su_8_10, su_9_1, su_9_2, su_9_3, su_9_4, su_9_5, su_9_6, su_9_7, su_9_8, su_9_10, su_10_1, su_10_2, su_10_3, su_10_4, su_10_5, su_10_6, su_10_7, su_10_8, su_10_9]
        refine jJ_goto (pc := 43) (tgt := 8) dX3_scan_43 (by decide) ?_
        rw [runW, if_pos (by unfold isBlB; simpa using c30)] at hrun
        rw [su_su]
        exact ih (i + 1) (by omega) (by omega) hrun
theorem c_Rd_scan {x : Nat} {q : Nat → Nat} {n : Nat} (h : RdL E P rd op) (hx : TxL E P x q) (hq0 : q 0 ≠ op) (hn : I x 9 = (n : Int)) (hn2 : n ≤ 800) (h9 : 0 ≤ s 9 ∧ s 9 ≤ 800) (hd : 7 ≤ d) : jC E yX3_scan cX3_scan 3 none d [jp rd, jp x] (rdM I rd op s r) P (jD none (rdM I rd op (scS (I (q 0)) n s) r) P) := by
  have h0 := h.1
  refine jC_intro (by decide +kernel) (by simp [jc, va_rf, Value.category]) (Nat.le_of_ble_eq_true rfl) ?_
  refine jJ_aload_n (pc := 0) dX3_scan_0 rfl ?_
  refine jJ_aload_n (pc := 1) dX3_scan_1 rfl ?_
  refine jJ_geti (pc := 2) dX3_scan_2 fX3_38 rfl (by assumption) ?_
  try simp only [rdM_g1, rdM_g2, rdM_g3, rdM_g4, rdM_g5, rdM_g6, rdM_g7, rdM_g8, rdM_g9, rdM_g10, rdM_p1, rdM_p2, rdM_p3, rdM_p4, rdM_p5, rdM_p6, rdM_p7, rdM_p8, rdM_p9, rdM_p10, rdM_r, rdM_w, su_s, su_1_2, su_1_3, su_1_4, su_1_5, su_1_6, su_1_7, su_1_8, su_1_9, su_1_10, su_2_1, su_2_3, su_2_4, su_2_5, su_2_6, su_2_7, su_2_8, su_2_9, su_2_10, su_3_1, su_3_2, su_3_4, su_3_5, su_3_6, su_3_7, su_3_8, su_3_9, su_3_10, su_4_1, su_4_2, su_4_3, su_4_5, su_4_6, su_4_7, su_4_8, su_4_9, su_4_10, su_5_1, su_5_2, su_5_3, su_5_4, su_5_6, su_5_7, su_5_8, su_5_9, su_5_10, su_6_1, su_6_2, su_6_3, su_6_4, su_6_5, su_6_7, su_6_8, su_6_9, su_6_10, su_7_1, su_7_2, su_7_3, su_7_4, su_7_5, su_7_6, su_7_8, su_7_9, su_7_10, su_8_1, su_8_2, su_8_3, su_8_4, su_8_5, su_8_6, su_8_7, su_8_9, su_8_10, su_9_1, su_9_2, su_9_3, su_9_4, su_9_5, su_9_6, su_9_7, su_9_8, su_9_10, su_10_1, su_10_2, su_10_3, su_10_4, su_10_5, su_10_6, su_10_7, su_10_8, su_10_9]
  refine jJ_puti (pc := 5) dX3_scan_5 fX3_55w rfl ⟨rfl, rfl⟩ (by assumption) ?_
  try simp only [rdM_g1, rdM_g2, rdM_g3, rdM_g4, rdM_g5, rdM_g6, rdM_g7, rdM_g8, rdM_g9, rdM_g10, rdM_p1, rdM_p2, rdM_p3, rdM_p4, rdM_p5, rdM_p6, rdM_p7, rdM_p8, rdM_p9, rdM_p10, rdM_r, rdM_w, su_s, su_1_2, su_1_3, su_1_4, su_1_5, su_1_6, su_1_7, su_1_8, su_1_9, su_1_10, su_2_1, su_2_3, su_2_4, su_2_5, su_2_6, su_2_7, su_2_8, su_2_9, su_2_10, su_3_1, su_3_2, su_3_4, su_3_5, su_3_6, su_3_7, su_3_8, su_3_9, su_3_10, su_4_1, su_4_2, su_4_3, su_4_5, su_4_6, su_4_7, su_4_8, su_4_9, su_4_10, su_5_1, su_5_2, su_5_3, su_5_4, su_5_6, su_5_7, su_5_8, su_5_9, su_5_10, su_6_1, su_6_2, su_6_3, su_6_4, su_6_5, su_6_7, su_6_8, su_6_9, su_6_10, su_7_1, su_7_2, su_7_3, su_7_4, su_7_5, su_7_6, su_7_8, su_7_9, su_7_10, su_8_1, su_8_2, su_8_3, su_8_4, su_8_5, su_8_6, su_8_7, su_8_9, su_8_10, su_9_1, su_9_2, su_9_3, su_9_4, su_9_5, su_9_6, su_9_7, su_9_8, su_9_10, su_10_1, su_10_2, su_10_3, su_10_4, su_10_5, su_10_6, su_10_7, su_10_8, su_10_9]
  have k := scan_loop (r := r) (s0 := s) (z := none) h hx hq0 hn hn2 hd (n - (s 9).toNat) (s 9).toNat rfl (by omega) rfl
  rw [show (((s 9).toNat : Nat) : Int) = s 9 by omega] at k
  exact k
end JScan
