section JText2
variable {E : jE} {I : jI} {P : jP} {d : Nat}
/-- the bits of the TESTS that hold -/
def tstV (ow hand dp : Int) : Int := if dp = 0 then jOr (jOr (jShl 1 (2 + ow)) (jShl 1 (6 + hand))) 1 else if 2 ≤ dp then jOr (jOr (jShl 1 (2 + ow)) (jShl 1 (6 + hand))) 2 else jOr (jShl 1 (2 + ow)) (jShl 1 (6 + hand))
theorem c_Text_testsAt {x : Nat} {q : Nat → Nat} {g : Nat} (hx : TxL E P x q) (hg : g + 1 < 200) (ho : 0 ≤ I (q 5) g ∧ I (q 5) g ≤ 3) (hh : 0 ≤ I x 10 ∧ I x 10 ≤ 3) : jC E yX5_testsAt cX5_testsAt 4 (some .int) d [jp x, ji (g : Int)] I P (jD (some (ji (tstV (I (q 5) g) (I x 10) (I (q 4) (g + 1))))) I P) := by
  obtain ⟨h0, ⟨p0, p1, p2, p3, p4, p5, p6, p7⟩, ⟨a0, a1, a2, a3, a4, a5, a6, a7⟩⟩ := hx
  refine jC_intro (by decide +kernel) (by simp [jc, va_rf, Value.category]) (Nat.le_of_ble_eq_true rfl) ?_
  refine jJ_aload_n (pc := 0) dX5_testsAt_0 rfl ?_
  refine jJ_getr (pc := 1) dX5_testsAt_1 fX5_25 rfl (by assumption) (by assumption) ?_
  refine jJ_iload_n (pc := 4) dX5_testsAt_4 rfl ?_
  refine jJ_iconst (pc := 5) dX5_testsAt_5 (by decide) ?_
  refine jJ_iadd (pc := 6) dX5_testsAt_6 ⟨by omega, by omega⟩ ?_
  refine jJ_iald (pc := 7) dX5_testsAt_7 a4 ⟨by omega, by omega⟩ ?_
  rw [show ((g : Int) + 1).toNat = g + 1 by omega]
  refine jJ_istore_n (pc := 8) (ls' := [_, _, _, _]) dX5_testsAt_8 (Nat.le_of_ble_eq_true rfl) rfl ?_
  refine jJ_iconst (pc := 9) dX5_testsAt_9 (by decide) ?_
  refine jJ_iconst (pc := 10) dX5_testsAt_10 (by decide) ?_
  refine jJ_aload_n (pc := 11) dX5_testsAt_11 rfl ?_
  refine jJ_getr (pc := 12) dX5_testsAt_12 fX5_28 rfl (by assumption) (by assumption) ?_
  refine jJ_iload_n (pc := 15) dX5_testsAt_15 rfl ?_
  refine jJ_iald (pc := 16) dX5_testsAt_16 a5 ⟨by omega, by omega⟩ ?_
  rw [Int.toNat_natCast]
  refine jJ_iadd (pc := 17) dX5_testsAt_17 ⟨by omega, by omega⟩ ?_
  refine jJ_ishl (pc := 18) dX5_testsAt_18 ?_
  refine jJ_iconst (pc := 19) dX5_testsAt_19 (by decide) ?_
  refine jJ_bipush (pc := 20) dX5_testsAt_20 (by decide) ?_
  refine jJ_aload_n (pc := 22) dX5_testsAt_22 rfl ?_
  refine jJ_geti (pc := 23) dX5_testsAt_23 fX5_56 rfl (by assumption) ?_
  refine jJ_iadd (pc := 26) dX5_testsAt_26 ⟨by omega, by omega⟩ ?_
  refine jJ_ishl (pc := 27) dX5_testsAt_27 ?_
  refine jJ_ior (pc := 28) dX5_testsAt_28 ?_
  refine jJ_istore_n (pc := 29) (ls' := [_, _, _, _]) dX5_testsAt_29 (Nat.le_of_ble_eq_true rfl) rfl ?_
  refine jJ_iload_n (pc := 30) dX5_testsAt_30 rfl ?_
  refine jJ_if_ne (pc := 31) (tgt := 41) dX5_testsAt_31 (by decide) (fun c31 => ?_) (fun c31 => ?_)
  · refine jJ_iload_n (pc := 41) dX5_testsAt_41 rfl ?_
    refine jJ_iconst (pc := 42) dX5_testsAt_42 (by decide) ?_
    refine jJ_icmp_lt (pc := 43) (tgt := 50) dX5_testsAt_43 (by decide) (fun c43 => ?_) (fun c43 => ?_)
    · refine jJ_iload_n (pc := 50) dX5_testsAt_50 rfl ?_
      refine jJ_iret (pc := 51) dX5_testsAt_51 rfl ?_
      exact ⟨by unfold tstV; (repeat' split) <;> first | rfl | (exfalso; omega), rfl, rfl⟩
    · refine jJ_iload_n (pc := 46) dX5_testsAt_46 rfl ?_
      refine jJ_iconst (pc := 47) dX5_testsAt_47 (by decide) ?_
      refine jJ_ior (pc := 48) dX5_testsAt_48 ?_
      refine jJ_istore_n (pc := 49) (ls' := [_, _, _, _]) dX5_testsAt_49 (Nat.le_of_ble_eq_true rfl) rfl ?_
      refine jJ_iload_n (pc := 50) dX5_testsAt_50 rfl ?_
      refine jJ_iret (pc := 51) dX5_testsAt_51 rfl ?_
      exact ⟨by unfold tstV; (repeat' split) <;> first | rfl | (exfalso; omega), rfl, rfl⟩
  · refine jJ_iload_n (pc := 34) dX5_testsAt_34 rfl ?_
    refine jJ_iconst (pc := 35) dX5_testsAt_35 (by decide) ?_
    refine jJ_ior (pc := 36) dX5_testsAt_36 ?_
    refine jJ_istore_n (pc := 37) (ls' := [_, _, _, _]) dX5_testsAt_37 (Nat.le_of_ble_eq_true rfl) rfl ?_
    refine jJ_goto (pc := 38) (tgt := 50) dX5_testsAt_38 (by decide) ?_
    refine jJ_iload_n (pc := 50) dX5_testsAt_50 rfl ?_
    refine jJ_iret (pc := 51) dX5_testsAt_51 rfl ?_
    exact ⟨by unfold tstV; (repeat' split) <;> first | rfl | (exfalso; omega), rfl, rfl⟩
/-- how many of the k gaps from i on are of this kind and choice -/
def cntG (f g : Nat → Int) (kd ch : Int) : Nat → Nat → Int
  | _, 0 => 0
  | i, k + 1 => (if f i = kd ∧ (ch = -1 ∨ g i = ch) then 1 else 0) + cntG f g kd ch (i + 1) k
theorem cntG_rng (f g : Nat → Int) (kd ch : Int) : ∀ k i, 0 ≤ cntG f g kd ch i k ∧ cntG f g kd ch i k ≤ k
  | 0, i => by simp [cntG]
  | k + 1, i => by
    have h := cntG_rng f g kd ch k (i + 1)
    simp only [cntG]
    split <;> omega
theorem countGaps_loop {x : Nat} {q : Nat → Nat} {kd ch : Int} {n : Nat} (hx : TxL E P x q) (hn : n ≤ 200) :
    ∀ (k i : Nat) (s : Int), i + k = n → 0 ≤ s → s ≤ i → jJ E yX5_countGaps.cls cX5_countGaps 6 (some .int) (jRm d) (jZ E (jD (some (ji (s + cntG (I (q 6)) (I (q 7)) kd ch i k))) I P)) 0 0 11 [some (jp x), some (ji kd), some (ji ch), some (ji (n : Int)), some (ji s), some (ji (i : Int))] [] I P := by
  obtain ⟨h0, ⟨p0, p1, p2, p3, p4, p5, p6, p7⟩, ⟨a0, a1, a2, a3, a4, a5, a6, a7⟩⟩ := hx
  intro k
  induction k with
  | zero =>
    intro i s hk h1 h2
    refine jJ_iload (pc := 11) dX5_countGaps_11 rfl ?_
    refine jJ_iload_n (pc := 13) dX5_countGaps_13 rfl ?_
    refine jJ_icmp_ge (pc := 14) (tgt := 53) dX5_countGaps_14 (by decide) (fun c14 => ?_) (fun c14 => ?_)
    · refine jJ_iload (pc := 53) dX5_countGaps_53 rfl ?_
      refine jJ_iret (pc := 55) dX5_countGaps_55 rfl ?_
      exact ⟨by rw [cntG, Int.add_zero], rfl, rfl⟩
    · exfalso
      omega
  | succ k ih =>
    intro i s hk h1 h2
    have c0 : ¬ (I (q 6) i = kd ∧ (ch = -1 ∨ I (q 7) i = ch)) → jJ E yX5_countGaps.cls cX5_countGaps 6 (some .int) (jRm d) (jZ E (jD (some (ji (s + cntG (I (q 6)) (I (q 7)) kd ch i (k + 1)))) I P)) 0 0 47 [some (jp x), some (ji kd), some (ji ch), some (ji (n : Int)), some (ji s), some (ji (i : Int))] [] I P := by
      intro hc
      refine jJ_iinc (pc := 47) (ls' := [_, _, _, _, _, _]) dX5_countGaps_47 rfl ⟨by omega, by omega⟩ rfl ?_
      refine jJ_goto (pc := 50) (tgt := 11) dX5_countGaps_50 (by decide) ?_
      rw [cntG, if_neg hc, Int.zero_add]
      exact ih (i + 1) s (by omega) h1 (by omega)
    have c1 : (I (q 6) i = kd ∧ (ch = -1 ∨ I (q 7) i = ch)) → jJ E yX5_countGaps.cls cX5_countGaps 6 (some .int) (jRm d) (jZ E (jD (some (ji (s + cntG (I (q 6)) (I (q 7)) kd ch i (k + 1)))) I P)) 0 0 44 [some (jp x), some (ji kd), some (ji ch), some (ji (n : Int)), some (ji s), some (ji (i : Int))] [] I P := by
      intro hc
      refine jJ_iinc (pc := 44) (ls' := [_, _, _, _, _, _]) dX5_countGaps_44 rfl ⟨by omega, by omega⟩ rfl ?_
      refine jJ_iinc (pc := 47) (ls' := [_, _, _, _, _, _]) dX5_countGaps_47 rfl ⟨by omega, by omega⟩ rfl ?_
      refine jJ_goto (pc := 50) (tgt := 11) dX5_countGaps_50 (by decide) ?_
      rw [cntG, if_pos hc, ← Int.add_assoc]
      exact ih (i + 1) (s + 1) (by omega) (by omega) (by omega)
    refine jJ_iload (pc := 11) dX5_countGaps_11 rfl ?_
    refine jJ_iload_n (pc := 13) dX5_countGaps_13 rfl ?_
    refine jJ_icmp_ge (pc := 14) (tgt := 53) dX5_countGaps_14 (by decide) (fun c14 => ?_) (fun c14 => ?_)
    · exfalso
      omega
    · refine jJ_aload_n (pc := 17) dX5_countGaps_17 rfl ?_
      refine jJ_getr (pc := 18) dX5_countGaps_18 fX5_31 rfl (by assumption) (by assumption) ?_
      refine jJ_iload (pc := 21) dX5_countGaps_21 rfl ?_
      refine jJ_iald (pc := 23) dX5_countGaps_23 a6 ⟨by omega, by omega⟩ ?_
      rw [Int.toNat_natCast]
      refine jJ_iload_n (pc := 24) dX5_countGaps_24 rfl ?_
      refine jJ_icmp_ne (pc := 25) (tgt := 47) dX5_countGaps_25 (by decide) (fun c25 => ?_) (fun c25 => ?_)
      · exact c0 (fun z => by omega)
      · refine jJ_iload_n (pc := 28) dX5_countGaps_28 rfl ?_
        refine jJ_iconst (pc := 29) dX5_countGaps_29 (by decide) ?_
        refine jJ_icmp_eq (pc := 30) (tgt := 44) dX5_countGaps_30 (by decide) (fun c30 => ?_) (fun c30 => ?_)
        · exact c1 ⟨by assumption, Or.inl (by assumption)⟩
        · refine jJ_aload_n (pc := 33) dX5_countGaps_33 rfl ?_
          refine jJ_getr (pc := 34) dX5_countGaps_34 fX5_34 rfl (by assumption) (by assumption) ?_
          refine jJ_iload (pc := 37) dX5_countGaps_37 rfl ?_
          refine jJ_iald (pc := 39) dX5_countGaps_39 a7 ⟨by omega, by omega⟩ ?_
          rw [Int.toNat_natCast]
          refine jJ_iload_n (pc := 40) dX5_countGaps_40 rfl ?_
          refine jJ_icmp_ne (pc := 41) (tgt := 47) dX5_countGaps_41 (by decide) (fun c41 => ?_) (fun c41 => ?_)
          · exact c0 (fun z => by omega)
          · exact c1 ⟨by assumption, Or.inr (by assumption)⟩
/-- how many gaps a TEXT of n TOKENS has -/
def gapsN (c : Int) : Nat := if 0 < c then (c - 1).toNat else 0
theorem gapsN_eq (c : Int) : (if 0 < c then c - 1 else 0) = (gapsN c : Int) := by unfold gapsN; split <;> omega
theorem c_Text_countGaps {x : Nat} {q : Nat → Nat} {kd ch : Int} (hx : TxL E P x q) (hn : I x 11 ≤ 200) (hd : 1 ≤ d) : jC E yX5_countGaps cX5_countGaps 6 (some .int) d [jp x, ji kd, ji ch] I P (jD (some (ji (cntG (I (q 6)) (I (q 7)) kd ch 0 (gapsN (I x 11))))) I P) := by
  refine jC_intro (by decide +kernel) (by simp [jc, va_rf, Value.category]) (Nat.le_of_ble_eq_true rfl) ?_
  refine jJ_aload_n (pc := 0) dX5_countGaps_0 rfl ?_
  refine jJ_callVd (pc := 1) (as := []) dX5_countGaps_1 mX5_80 (jRcv_of hx.1 rfl rfl) (Nat.le_of_ble_eq_true rfl) (jRm_ok (by omega) (by decide)) (c_Text_gapCount (d := d - 1) hx) ?_
  rw [gapsN_eq]
  refine jJ_istore_n (pc := 4) (ls' := [_, _, _, _, _, _]) dX5_countGaps_4 (Nat.le_of_ble_eq_true rfl) rfl ?_
  refine jJ_iconst (pc := 5) dX5_countGaps_5 (by decide) ?_
  refine jJ_istore (pc := 6) (ls' := [_, _, _, _, _, _]) dX5_countGaps_6 (Nat.le_of_ble_eq_true rfl) rfl ?_
  refine jJ_iconst (pc := 8) dX5_countGaps_8 (by decide) ?_
  refine jJ_istore (pc := 9) (ls' := [_, _, _, _, _, _]) dX5_countGaps_9 (Nat.le_of_ble_eq_true rfl) rfl ?_
  refine jJ_of_eq (countGaps_loop hx (by unfold gapsN; split <;> omega) (gapsN (I x 11)) 0 0 (by omega) (by omega) (by omega)) ?_
  rw [Int.zero_add]
def allE (f g : Nat → Int) : Nat → Nat → Nat → Bool
  | _, _, 0 => true
  | i, j, k + 1 => if f i = g j then allE f g (i + 1) (j + 1) k else false
theorem allE_t {f g : Nat → Int} {i j k : Nat} (h : f i = g j) : allE f g i j (k + 1) = allE f g (i + 1) (j + 1) k := by simp [allE, h]
theorem allE_f {f g : Nat → Int} {i j k : Nat} (h : f i ≠ g j) : allE f g i j (k + 1) = false := by simp [allE, h]
theorem same_loop {q r nq nr : Nat} {ae be : Int} {a0 b0 len : Nat} (hq : jAr E 8 q nq) (hr : jAr E 8 r nr) (h1 : a0 + len ≤ nq) (h2 : b0 + len ≤ nr) (hb : nq ≤ 5000 ∧ nr ≤ 5000) :
    ∀ (k i : Nat), i + k = len → jJ E yX6_same.cls cX6_same 8 (some .boolean) (jRm d) (jZ E (jD (some (ji (jb (allE (I q) (I r) (a0 + i) (b0 + i) k = true)))) I P)) 0 0 42 [some (jp q), some (ji (a0 : Int)), some (ji ae), some (jp r), some (ji (b0 : Int)), some (ji be), some (ji (len : Int)), some (ji (i : Int))] [] I P := by
  intro k
  induction k with
  | zero =>
    intro i hk
    refine jJ_iload (pc := 42) dX6_same_42 rfl ?_
    refine jJ_iload (pc := 44) dX6_same_44 rfl ?_
    refine jJ_icmp_ge (pc := 46) (tgt := 73) dX6_same_46 (by decide) (fun c46 => ?_) (fun c46 => ?_)
    · refine jJ_iconst (pc := 73) dX6_same_73 (by decide) ?_
      refine jJ_zret (pc := 74) dX6_same_74 rfl (by decide) ?_
      exact ⟨rfl, rfl, rfl⟩
    · exfalso
      omega
  | succ k ih =>
    intro i hk
    refine jJ_iload (pc := 42) dX6_same_42 rfl ?_
    refine jJ_iload (pc := 44) dX6_same_44 rfl ?_
    refine jJ_icmp_ge (pc := 46) (tgt := 73) dX6_same_46 (by decide) (fun c46 => ?_) (fun c46 => ?_)
    · exfalso
      omega
    · refine jJ_aload_n (pc := 49) dX6_same_49 rfl ?_
      refine jJ_iload_n (pc := 50) dX6_same_50 rfl ?_
      refine jJ_iload (pc := 51) dX6_same_51 rfl ?_
      refine jJ_iadd (pc := 53) dX6_same_53 ⟨by omega, by omega⟩ ?_
      refine jJ_bald (pc := 54) dX6_same_54 hq ⟨by omega, by omega⟩ ?_
      refine jJ_aload_n (pc := 55) dX6_same_55 rfl ?_
      refine jJ_iload (pc := 56) dX6_same_56 rfl ?_
      refine jJ_iload (pc := 58) dX6_same_58 rfl ?_
      refine jJ_iadd (pc := 60) dX6_same_60 ⟨by omega, by omega⟩ ?_
      refine jJ_bald (pc := 61) dX6_same_61 hr ⟨by omega, by omega⟩ ?_
      rw [show ((a0 : Int) + (i : Int)).toNat = a0 + i by omega, show ((b0 : Int) + (i : Int)).toNat = b0 + i by omega]
      refine jJ_icmp_eq (pc := 62) (tgt := 67) dX6_same_62 (by decide) (fun c62 => ?_) (fun c62 => ?_)
      · refine jJ_iinc (pc := 67) (ls' := [_, _, _, _, _, _, _, _]) dX6_same_67 rfl ⟨by omega, by omega⟩ rfl ?_
        refine jJ_goto (pc := 70) (tgt := 42) dX6_same_70 (by decide) ?_
        rw [allE_t c62]
        exact ih (i + 1) (by omega)
      · refine jJ_iconst (pc := 65) dX6_same_65 (by decide) ?_
        refine jJ_zret (pc := 66) dX6_same_66 rfl (by decide) ?_
        exact ⟨by rw [allE_f c62]; rfl, rfl, rfl⟩
def sameV (f g : Nat → Int) (nq nr : Nat) (a1 a2 b1 b2 : Int) : Prop := b2 - b1 = a2 - a1 ∧ 0 ≤ a1 ∧ a2 ≤ nq ∧ 0 ≤ b1 ∧ b2 ≤ nr ∧ allE f g a1.toNat b1.toNat (a2 - a1).toNat = true
theorem same_lp2 {q r nq nr : Nat} {a1 a2 b1 b2 : Int} (hq : jAr E 8 q nq) (hr : jAr E 8 r nr) (hb : nq ≤ 5000 ∧ nr ≤ 5000) (e1 : b2 - b1 = a2 - a1) (e2 : 0 ≤ a1) (e3 : a2 ≤ nq) (e4 : 0 ≤ b1) (e5 : b2 ≤ nr) :
    jJ E yX6_same.cls cX6_same 8 (some .boolean) (jRm d) (jZ E (jD (some (ji (jb (allE (I q) (I r) a1.toNat b1.toNat (a2 - a1).toNat = true)))) I P)) 0 0 42 [some (jp q), some (ji a1), some (ji a2), some (jp r), some (ji b1), some (ji b2), some (ji (a2 - a1)), some (ji 0)] [] I P := by
  by_cases h : 0 ≤ a2 - a1
  · have k := same_loop (I := I) (P := P) (d := d) (ae := a2) (be := b2) (a0 := a1.toNat) (b0 := b1.toNat) (len := (a2 - a1).toNat) hq hr (by omega) (by omega) hb (a2 - a1).toNat 0 (by omega)
    rw [show ((a1.toNat : Nat) : Int) = a1 by omega, show ((b1.toNat : Nat) : Int) = b1 by omega, show (((a2 - a1).toNat : Nat) : Int) = a2 - a1 by omega] at k
    exact k
  · refine jJ_iload (pc := 42) dX6_same_42 rfl ?_
    refine jJ_iload (pc := 44) dX6_same_44 rfl ?_
    refine jJ_icmp_ge (pc := 46) (tgt := 73) dX6_same_46 (by decide) (fun c46 => ?_) (fun c46 => ?_)
    · refine jJ_iconst (pc := 73) dX6_same_73 (by decide) ?_
      refine jJ_zret (pc := 74) dX6_same_74 rfl (by decide) ?_
      exact ⟨by rw [show (a2 - a1).toNat = 0 by omega]; rfl, rfl, rfl⟩
    · exfalso
      omega
theorem c_same {q r nq nr : Nat} {a1 a2 b1 b2 : Int} (hq : jAr E 8 q nq) (hr : jAr E 8 r nr) (hb : nq ≤ 5000 ∧ nr ≤ 5000) (ha1 : -5000 ≤ a1 ∧ a1 ≤ 5000) (ha2 : -5000 ≤ a2 ∧ a2 ≤ 5000) (hb1 : -5000 ≤ b1 ∧ b1 ≤ 5000) (hb2 : -5000 ≤ b2 ∧ b2 ≤ 5000) :
    jC E yX6_same cX6_same 8 (some .boolean) d [jp q, ji a1, ji a2, jp r, ji b1, ji b2] I P (jD (some (ji (jb (b2 - b1 = a2 - a1 ∧ 0 ≤ a1 ∧ a2 ≤ (nq : Int) ∧ 0 ≤ b1 ∧ b2 ≤ (nr : Int) ∧ allE (I q) (I r) a1.toNat b1.toNat (a2 - a1).toNat = true)))) I P) := by
  refine jC_intro (by decide +kernel) (by simp [jc, va_rf, Value.category]) (Nat.le_of_ble_eq_true rfl) ?_
  refine jJ_iload_n (pc := 0) dX6_same_0 rfl ?_
  refine jJ_iload_n (pc := 1) dX6_same_1 rfl ?_
  refine jJ_isub (pc := 2) dX6_same_2 ⟨by omega, by omega⟩ ?_
  refine jJ_istore (pc := 3) (ls' := [_, _, _, _, _, _, _, _]) dX6_same_3 (Nat.le_of_ble_eq_true rfl) rfl ?_
  refine jJ_iload (pc := 5) dX6_same_5 rfl ?_
  refine jJ_iload (pc := 7) dX6_same_7 rfl ?_
  refine jJ_isub (pc := 9) dX6_same_9 ⟨by omega, by omega⟩ ?_
  refine jJ_iload (pc := 10) dX6_same_10 rfl ?_
  refine jJ_icmp_ne (pc := 12) (tgt := 37) dX6_same_12 (by decide) (fun c12 => ?_) (fun c12 => ?_)
  · refine jJ_iconst (pc := 37) dX6_same_37 (by decide) ?_
    refine jJ_zret (pc := 38) dX6_same_38 rfl (by decide) ?_
    exact ⟨by rw [← jb_f (fun z => by omega)], rfl, rfl⟩
  · refine jJ_iload_n (pc := 15) dX6_same_15 rfl ?_
    refine jJ_if_lt (pc := 16) (tgt := 37) dX6_same_16 (by decide) (fun c16 => ?_) (fun c16 => ?_)
    · refine jJ_iconst (pc := 37) dX6_same_37 (by decide) ?_
      refine jJ_zret (pc := 38) dX6_same_38 rfl (by decide) ?_
      exact ⟨by rw [← jb_f (fun z => by omega)], rfl, rfl⟩
    · refine jJ_iload_n (pc := 19) dX6_same_19 rfl ?_
      refine jJ_aload_n (pc := 20) dX6_same_20 rfl ?_
      refine jJ_alen (pc := 21) (t0 := 0) dX6_same_21 hq rfl (by decide) (by decide) ⟨by omega, by omega⟩ ?_
      refine jJ_icmp_gt (pc := 22) (tgt := 37) dX6_same_22 (by decide) (fun c22 => ?_) (fun c22 => ?_)
      · refine jJ_iconst (pc := 37) dX6_same_37 (by decide) ?_
        refine jJ_zret (pc := 38) dX6_same_38 rfl (by decide) ?_
        exact ⟨by rw [← jb_f (fun z => by omega)], rfl, rfl⟩
      · refine jJ_iload (pc := 25) dX6_same_25 rfl ?_
        refine jJ_if_lt (pc := 27) (tgt := 37) dX6_same_27 (by decide) (fun c27 => ?_) (fun c27 => ?_)
        · refine jJ_iconst (pc := 37) dX6_same_37 (by decide) ?_
          refine jJ_zret (pc := 38) dX6_same_38 rfl (by decide) ?_
          exact ⟨by rw [← jb_f (fun z => by omega)], rfl, rfl⟩
        · refine jJ_iload (pc := 30) dX6_same_30 rfl ?_
          refine jJ_aload_n (pc := 32) dX6_same_32 rfl ?_
          refine jJ_alen (pc := 33) (t0 := 0) dX6_same_33 hr rfl (by decide) (by decide) ⟨by omega, by omega⟩ ?_
          refine jJ_icmp_le (pc := 34) (tgt := 39) dX6_same_34 (by decide) (fun c34 => ?_) (fun c34 => ?_)
          · refine jJ_iconst (pc := 39) dX6_same_39 (by decide) ?_
            refine jJ_istore (pc := 40) (ls' := [_, _, _, _, _, _, _, _]) dX6_same_40 (Nat.le_of_ble_eq_true rfl) rfl ?_
            refine jJ_of_eq (same_lp2 hq hr hb (by assumption) (by assumption) (by assumption) (by assumption) (by assumption)) ?_
            congr 2
            unfold jb
            simp only [*, true_and]
          · refine jJ_iconst (pc := 37) dX6_same_37 (by decide) ?_
            refine jJ_zret (pc := 38) dX6_same_38 rfl (by decide) ?_
            exact ⟨by rw [← jb_f (fun z => by omega)], rfl, rfl⟩
theorem c_Text_sameToken {x y : Nat} {q r : Nat → Nat} {i j : Nat} (hx : TxL E P x q) (hy : TxL E P y r) (hi : i < 200) (hj : j < 200) (h1 : 0 ≤ I (q 1) i ∧ I (q 1) i ≤ 800) (h2 : 0 ≤ I (q 2) i ∧ I (q 2) i ≤ 800) (h3 : 0 ≤ I (r 1) j ∧ I (r 1) j ≤ 800) (h4 : 0 ≤ I (r 2) j ∧ I (r 2) j ≤ 800) (hd : 1 ≤ d) :
    jC E yX5_sameToken cX5_sameToken 4 (some .boolean) d [jp x, ji (i : Int), jp y, ji (j : Int)] I P (jD (some (ji (jb (I (r 2) j - I (r 1) j = I (q 2) i - I (q 1) i ∧ allE (I (q 0)) (I (r 0)) (I (q 1) i).toNat (I (r 1) j).toNat (I (q 2) i - I (q 1) i).toNat = true)))) I P) := by
  obtain ⟨h0, ⟨p0, p1, p2, p3, p4, p5, p6, p7⟩, ⟨a0, a1, a2, a3, a4, a5, a6, a7⟩⟩ := hx
  obtain ⟨g0, ⟨r0, r1, r2, r3, r4, r5, r6, r7⟩, ⟨b0, b1, b2, b3, b4, b5, b6, b7⟩⟩ := hy
  refine jC_intro (by decide +kernel) (by simp [jc, va_rf, Value.category]) (Nat.le_of_ble_eq_true rfl) ?_
  refine jJ_aload_n (pc := 0) dX5_sameToken_0 rfl ?_
  refine jJ_getr (pc := 1) dX5_sameToken_1 fX5_9 rfl h0 (by first | exact p0 | exact p1 | exact p2) ?_
  refine jJ_aload_n (pc := 4) dX5_sameToken_4 rfl ?_
  refine jJ_getr (pc := 5) dX5_sameToken_5 fX5_15 rfl h0 (by first | exact p0 | exact p1 | exact p2) ?_
  refine jJ_iload_n (pc := 8) dX5_sameToken_8 rfl ?_
  refine jJ_iald (pc := 9) dX5_sameToken_9 a1 ⟨by omega, by omega⟩ ?_
  refine jJ_aload_n (pc := 10) dX5_sameToken_10 rfl ?_
  refine jJ_getr (pc := 11) dX5_sameToken_11 fX5_19 rfl h0 (by first | exact p0 | exact p1 | exact p2) ?_
  refine jJ_iload_n (pc := 14) dX5_sameToken_14 rfl ?_
  refine jJ_iald (pc := 15) dX5_sameToken_15 a2 ⟨by omega, by omega⟩ ?_
  refine jJ_aload_n (pc := 16) dX5_sameToken_16 rfl ?_
  refine jJ_getr (pc := 17) dX5_sameToken_17 fX5_9 rfl g0 (by first | exact r0 | exact r1 | exact r2) ?_
  refine jJ_aload_n (pc := 20) dX5_sameToken_20 rfl ?_
  refine jJ_getr (pc := 21) dX5_sameToken_21 fX5_15 rfl g0 (by first | exact r0 | exact r1 | exact r2) ?_
  refine jJ_iload_n (pc := 24) dX5_sameToken_24 rfl ?_
  refine jJ_iald (pc := 25) dX5_sameToken_25 b1 ⟨by omega, by omega⟩ ?_
  refine jJ_aload_n (pc := 26) dX5_sameToken_26 rfl ?_
  refine jJ_getr (pc := 27) dX5_sameToken_27 fX5_19 rfl g0 (by first | exact r0 | exact r1 | exact r2) ?_
  refine jJ_iload_n (pc := 30) dX5_sameToken_30 rfl ?_
  refine jJ_iald (pc := 31) dX5_sameToken_31 b2 ⟨by omega, by omega⟩ ?_
  simp only [Int.toNat_natCast]
  refine jJ_callSd (pc := 32) (as := [_, _, _, _, _, _]) dX5_sameToken_32 mX5_84 (Nat.le_of_ble_eq_true rfl) (jRm_ok (by omega) (by decide)) (c_same (d := d - 1) a0 b0 ⟨by decide, by decide⟩ ⟨by omega, by omega⟩ ⟨by omega, by omega⟩ ⟨by omega, by omega⟩ ⟨by omega, by omega⟩) ?_
  refine jJ_zret (pc := 35) dX5_sameToken_35 rfl jb_01 ?_
  refine ⟨?_, rfl, rfl⟩
  congr 2
  unfold jb
  have e2 : I (q 2) i ≤ ((800 : Nat) : Int) := by omega
  have e3 : I (r 2) j ≤ ((800 : Nat) : Int) := by omega
  simp only [h1.1, h3.1, e2, e3, true_and]
/-! a text begins: its bytes come -/
def staM (I : jI) (x b s : Nat) (n hand : Int) : jI := jput (jput (cpM (jput I x 9 (max 0 (min n 800))) s b 0 0 (max 0 (min n 800)).toNat) x 10 hand) x 11 0
theorem c_Text_start {x s ns : Nat} {q : Nat → Nat} {n hand : Int} (hx : TxL E P x q) (hs : jAr E 8 s ns) (hns : 800 ≤ ns ∧ ns ≤ 5000) (hb : ∀ i : Nat, i < 800 → -128 ≤ I s i ∧ I s i ≤ 127) (hd : 2 ≤ d) : jC E yX5_start cX5_start 4 none d [jp x, jp s, ji n, ji hand] I P (jD none (staM I x (q 0) s n hand) P) := by
  obtain ⟨h0, ⟨p0, p1, p2, p3, p4, p5, p6, p7⟩, ⟨a0, a1, a2, a3, a4, a5, a6, a7⟩⟩ := hx
  have nx : x ≠ q 0 := jne h0.2 a0.2.1 (by decide)
  have ns' : x ≠ s := jne h0.2 hs.2.1 (by decide)
  refine jC_intro (by decide +kernel) (by simp [jc, va_rf, Value.category]) (Nat.le_of_ble_eq_true rfl) ?_
  refine jJ_aload_n (pc := 0) dX5_start_0 rfl ?_
  refine jJ_iconst (pc := 1) dX5_start_1 (by decide) ?_
  refine jJ_iload_n (pc := 2) dX5_start_2 rfl ?_
  refine jJ_aload_n (pc := 3) dX5_start_3 rfl ?_
  refine jJ_alen (pc := 4) (t0 := 0) dX5_start_4 hs rfl (by decide) (by decide) ⟨by omega, by omega⟩ ?_
  refine jJ_aload_n (pc := 5) dX5_start_5 rfl ?_
  refine jJ_getr (pc := 6) dX5_start_6 fX5_9 rfl (by assumption) (by assumption) ?_
  refine jJ_alen (pc := 9) (t0 := 0) dX5_start_9 a0 rfl (by decide) (by decide) (by decide) ?_
  refine jJ_min (pc := 10) dX5_start_10 mX5_37 nX5_37 (Nat.le_of_ble_eq_true rfl) (jRm_1 (by omega)) ?_
  rw [show min (ns : Int) ((800 : Nat) : Int) = 800 by omega]
  refine jJ_min (pc := 13) dX5_start_13 mX5_37 nX5_37 (Nat.le_of_ble_eq_true rfl) (jRm_1 (by omega)) ?_
  refine jJ_max (pc := 16) dX5_start_16 mX5_43 nX5_43 (Nat.le_of_ble_eq_true rfl) (jRm_1 (by omega)) ?_
  refine jJ_puti (pc := 19) dX5_start_19 fX5_46w rfl ⟨rfl, rfl⟩ (by assumption) ?_
  refine jJ_aload_n (pc := 22) dX5_start_22 rfl ?_
  refine jJ_iconst (pc := 23) dX5_start_23 (by decide) ?_
  refine jJ_aload_n (pc := 24) dX5_start_24 rfl ?_
  refine jJ_getr (pc := 25) dX5_start_25 fX5_9 rfl (by assumption) (by assumption) ?_
  refine jJ_iconst (pc := 28) dX5_start_28 (by decide) ?_
  refine jJ_aload_n (pc := 29) dX5_start_29 rfl ?_
  refine jJ_geti (pc := 30) dX5_start_30 fX5_46 rfl (by assumption) ?_
  rw [jput_s]
  refine jJ_copyb (pc := 33) dX5_start_33 acp_1 hs a0 ⟨by omega, by omega, by omega, by omega, by omega⟩ (fun i hi => by rw [jput_a _ ns'.symm]; simpa using hb i (by omega)) (Nat.le_of_ble_eq_true rfl) (jRm_cp hd) ?_
  refine jJ_aload_n (pc := 36) dX5_start_36 rfl ?_
  refine jJ_iload_n (pc := 37) dX5_start_37 rfl ?_
  refine jJ_puti (pc := 38) dX5_start_38 fX5_56w rfl ⟨rfl, rfl⟩ (by assumption) ?_
  refine jJ_aload_n (pc := 41) dX5_start_41 rfl ?_
  refine jJ_iconst (pc := 42) dX5_start_42 (by decide) ?_
  refine jJ_puti (pc := 43) dX5_start_43 fX5_59w rfl ⟨rfl, rfl⟩ (by assumption) ?_
  refine jJ_vret (pc := 46) dX5_start_46 rfl ?_
  exact ⟨rfl, rfl, rfl⟩
end JText2
