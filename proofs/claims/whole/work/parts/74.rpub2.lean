section JRPv
variable {E : jE} {I : jI} {P : jP} {d m t i : Nat} {a : Nat → Nat} {x : TX}
theorem x_kindOf (hR : RfL E P m a) (hT : RT I a t x) (hW : WX x) (ht : t < 12) (hi : i + 1 < (xT x).length) (hd : 2 ≤ d) : jC E yX7_kindOf cX7_kindOf 3 (some .int) d [jp m, ji (t : Int), ji (i : Int)] I P (jD (some (ji (xKd x i))) I P) := by
  have t1 := (hW.tk (i := i) (by omega)).1
  have t2 := (hW.tk (i := i + 1) (by omega)).1
  have hl := hW.2.2.2.1
  have e11 := hT.g11 hi
  rw [show ((i + 1 : Nat) : Int) = (i : Int) + 1 by omega] at e11
  refine jC_post (r_kindOf hR (by omega) (by omega) (by rw [hT.g11 (by omega)]; omega) (by rw [e11]; omega) hd) (by rw [hT.kd hW hi]) rfl
theorem x_choiceOf (hR : RfL E P m a) (hT : RT I a t x) (hW : WX x) (ht : t < 12) (hi : i + 1 < (xT x).length) : jC E yX7_choiceOf cX7_choiceOf 8 (some .int) d [jp m, ji (t : Int), ji (i : Int)] I P (jD (some (ji (xCh x i))) I P) := by
  have t1 := (hW.tk (i := i) (by omega)).1
  have t2 := (hW.tk (i := i + 1) (by omega)).1
  have t3 := (hW.tk (i := i + 1) (by omega)).2.2.2.1
  have ho := (hW.or hi).1
  have hl := hW.2.2.2.1
  have e11 := hT.g11 hi
  have e14 := hT.g14 hi
  rw [show ((i + 1 : Nat) : Int) = (i : Int) + 1 by omega] at e11 e14
  refine jC_post (r_choiceOf hR (by omega) (by omega) (by rw [hT.g11 (by omega), hT.g12 (by omega), e11]; omega) (by rw [e14]; omega)) (by rw [hT.ch hW hi]) rfl
theorem x_testsOf (hR : RfL E P m a) (hT : RT I a t x) (hW : WX x) (ht : t < 12) (hi : i + 1 < (xT x).length) : jC E yX7_testsOf cX7_testsOf 5 (some .int) d [jp m, ji (t : Int), ji (i : Int)] I P (jD (some (ji (xTs x i))) I P) := by
  have hl := hW.2.2.2.1
  exact jC_post (r_testsOf hR (by omega) (by omega)) (by rw [hT.ts hW hi]) rfl
theorem x_isPair (hR : RfL E P m a) (hT : RT I a t x) (hW : WX x) (ht : t < 12) (hi : i + 1 < (xT x).length) : jC E yX7_isPair cX7_isPair 3 (some .boolean) d [jp m, ji (t : Int), ji (i : Int)] I P (jD (some (ji (jb (xKd x i = 15)))) I P) := by
  have hl := hW.2.2.2.1
  exact jC_post (r_isPair hR (by omega) (by omega)) (congrArg (fun v => some (ji v)) (jb_cg (hT.pr hW hi))) rfl
theorem x_toldAt {S : Nat → Nat → Int} (hR : RfL E P m a) (hT : RT I a t x) (hW : WX x) (hS : RS I a S) (ht : t < 12) (hi : i + 1 < (xT x).length) (hd : 3 ≤ d) : jC E yX7_toldAt cX7_toldAt 4 (some .int) d [jp m, ji (t : Int), ji (i : Int)] I P (jD (some (ji (xTol S x i))) I P) := by
  have t1 := (hW.tk (i := i) (by omega)).1
  have t2 := (hW.tk (i := i + 1) (by omega)).1
  have hl := hW.2.2.2.1
  have e11 := hT.g11 hi
  rw [show ((i + 1 : Nat) : Int) = (i : Int) + 1 by omega] at e11
  exact jC_post (r_toldAt hR (by omega) (by omega) (by rw [hT.g11 (by omega)]; omega) (by rw [e11]; omega) hd) (by rw [hT.tol hW hS hi]) rfl
/-- there is a TEXT of this number, by the reference -/
def rTh (I : jI) (a : Nat → Nat) (t : Int) : Prop := 0 ≤ t ∧ t < 12 ∧ I (a 5) t.toNat ≠ 0
def gpV (x : TX) (i : Nat) (w : Int) : Int := if w = 0 then xKd x i else if w = 1 then xCh x i else if w = 2 then xDp x (i + 1) else xTs x i
theorem r_gap {X : Nat → TX} {t i w : Int} (hR : RfL E P m a) (hX : RTs I a X) (hd : 3 ≤ d) : jC E yX7_gap cX7_gap 4 (some .int) d [jp m, ji t, ji i, ji w] I P (fun v I' P' => P' = P ∧ ((rTh I a t ∧ (0 ≤ i ∧ i < ((xT (X t.toNat)).length : Int) - 1) ∧ (0 ≤ w ∧ w ≤ 3) ∧ v = some (ji (gpV (X t.toNat) i.toNat w)) ∧ I' = jput I m 0 0) ∨ (¬ (rTh I a t ∧ (0 ≤ i ∧ i < ((xT (X t.toNat)).length : Int) - 1) ∧ (0 ≤ w ∧ w ≤ 3)) ∧ v = some (ji 0) ∧ I' = jput I m 0 1))) := by
  have n9 := hR.n9
  have n14 := hR.n14
  refine jC_intro (by decide +kernel) (by simp [jc, va_rf, Value.category]) (Nat.le_of_ble_eq_true rfl) ?_
  refine jJ_aload_n (pc := 0) dX7_gap_0 rfl ?_
  refine jJ_iload_n (pc := 1) dX7_gap_1 rfl ?_
  refine jJ_callVd (pc := 2) (as := [_]) dX7_gap_2 mX7_216 (jRcv_of hR.1 rfl rfl) (Nat.le_of_ble_eq_true rfl) (jRm_ok (by omega) (by decide)) (r_isThere (d := d - 1) hR (by omega)) ?_
  by_cases ht : 0 ≤ t ∧ t < 12 ∧ I (a 5) t.toNat ≠ 0
  · obtain ⟨hT, hW⟩ := hX t.toNat (by omega) ht.2.2
    have hT0 : RT (jput I m 0 0) a t.toNat (X t.toNat) := hT.cg (fun j h1 h2 => jput_row (hR.nm (rfK_515 j (by omega) h2)))
    have hl := hW.2.2.2.1
    have e9 : I (a 9) t.toNat = ((xT (X t.toNat)).length : Int) := hT.2.2.1
    obtain ⟨t', rfl⟩ : ∃ t' : Nat, t = (t' : Int) := ⟨t.toNat, by omega⟩
    rw [Int.toNat_natCast] at *
    rw [← jb_t ht, thM_t ht]
    refine jJ_if_eq (pc := 5) (tgt := 46) dX7_gap_5 (by decide) (fun c5 => ?_) (fun c5 => ?_)
    · exact absurd c5 (by decide)
    · have bad : ¬ ((0 ≤ i ∧ i < ((xT (X t')).length : Int) - 1) ∧ (0 ≤ w ∧ w ≤ 3)) → jJ E yX7_gap.cls cX7_gap 4 (some .int) (jRm d) (jZ E (fun v I' P' => P' = P ∧ ((rTh I a (t' : Int) ∧ (0 ≤ i ∧ i < ((xT (X t')).length : Int) - 1) ∧ (0 ≤ w ∧ w ≤ 3) ∧ v = some (ji (gpV (X t') i.toNat w)) ∧ I' = jput I m 0 0) ∨ (¬ (rTh I a (t' : Int) ∧ (0 ≤ i ∧ i < ((xT (X t')).length : Int) - 1) ∧ (0 ≤ w ∧ w ≤ 3)) ∧ v = some (ji 0) ∧ I' = jput I m 0 1)))) 0 0 38 [some (jp m), some (ji (t' : Int)), some (ji i), some (ji w)] [jp m] (jput I m 0 0) P := by
        intro hb
        refine jJ_iconst (pc := 38) dX7_gap_38 (by decide) ?_
        refine jJ_iconst (pc := 39) dX7_gap_39 (by decide) ?_
        refine jJ_callVd (pc := 40) (as := [_, _]) dX7_gap_40 mX7_208 (jRcv_of hR.1 rfl rfl) (Nat.le_of_ble_eq_true rfl) (jRm_ok (by omega) (by decide)) (r_right (d := d - 1) hR) ?_
        rw [rgF, jput_s, jb_10]
        refine jJ_if_ne (pc := 43) (tgt := 48) dX7_gap_43 (by decide) (fun c43 => ?_) (fun c43 => ?_)
        · exact absurd rfl c43
        · refine jJ_iconst (pc := 46) dX7_gap_46 (by decide) ?_
          refine jJ_iret (pc := 47) dX7_gap_47 rfl ?_
          exact ⟨rfl, Or.inr ⟨fun z => hb z.2, rfl, rfl⟩⟩
      refine jJ_aload_n (pc := 8) dX7_gap_8 rfl ?_
      refine jJ_iload_n (pc := 9) dX7_gap_9 rfl ?_
      refine jJ_if_lt (pc := 10) (tgt := 38) dX7_gap_10 (by decide) (fun c10 => ?_) (fun c10 => ?_)
      · exact bad (by omega)
      · refine jJ_iload_n (pc := 13) dX7_gap_13 rfl ?_
        refine jJ_aload_n (pc := 14) dX7_gap_14 rfl ?_
        refine jJ_getr (pc := 15) dX7_gap_15 fX7_30 rfl hR.1 hR.p9 ?_
        try simp only [jput_a I n9, Int.toNat_natCast, e9]
        refine jJ_iload_n (pc := 18) dX7_gap_18 rfl ?_
        refine jJ_iald (pc := 19) dX7_gap_19 hR.a9 ⟨by omega, by omega⟩ ?_
        try simp only [jput_a I n9, Int.toNat_natCast, e9]
        refine jJ_iconst (pc := 20) dX7_gap_20 (by decide) ?_
        refine jJ_isub (pc := 21) dX7_gap_21 ⟨by omega, by omega⟩ ?_
        refine jJ_icmp_ge (pc := 22) (tgt := 38) dX7_gap_22 (by decide) (fun c22 => ?_) (fun c22 => ?_)
        · exact bad (by omega)
        · refine jJ_iload_n (pc := 25) dX7_gap_25 rfl ?_
          refine jJ_if_lt (pc := 26) (tgt := 38) dX7_gap_26 (by decide) (fun c26 => ?_) (fun c26 => ?_)
          · exact bad (by omega)
          · refine jJ_iload_n (pc := 29) dX7_gap_29 rfl ?_
            refine jJ_iconst (pc := 30) dX7_gap_30 (by decide) ?_
            refine jJ_icmp_gt (pc := 31) (tgt := 38) dX7_gap_31 (by decide) (fun c31 => ?_) (fun c31 => ?_)
            · exact bad (by omega)
            · refine jJ_iconst (pc := 34) dX7_gap_34 (by decide) ?_
              refine jJ_goto (pc := 35) (tgt := 39) dX7_gap_35 (by decide) ?_
              refine jJ_iconst (pc := 39) dX7_gap_39 (by decide) ?_
              refine jJ_callVd (pc := 40) (as := [_, _]) dX7_gap_40 mX7_208 (jRcv_of hR.1 rfl rfl) (Nat.le_of_ble_eq_true rfl) (jRm_ok (by omega) (by decide)) (r_right (d := d - 1) hR) ?_
              rw [rgT, jput_s, jb_00]
              obtain ⟨i', rfl⟩ : ∃ i' : Nat, i = (i' : Int) := ⟨i.toNat, by omega⟩
              rw [Int.toNat_natCast] at *
              have hi : i' + 1 < (xT (X t')).length := by omega
              have e14 : jput I m 0 0 (a 14) (201 * (t' : Int) + (i' : Int) + 1).toNat = xDp (X t') (i' + 1) := by
                rw [show (201 * (t' : Int) + (i' : Int) + 1).toNat = 201 * t' + (i' + 1) by omega]
                exact (hT0.2.2.2.2.2 (i' + 1) hi).2.2.2.1
              refine jJ_if_ne (pc := 43) (tgt := 48) dX7_gap_43 (by decide) (fun c43 => ?_) (fun c43 => ?_)
              · refine jJ_iload_n (pc := 48) dX7_gap_48 rfl ?_
                refine jJ_if_ne (pc := 49) (tgt := 61) dX7_gap_49 (by decide) (fun c49 => ?_) (fun c49 => ?_)
                · refine jJ_iload_n (pc := 61) dX7_gap_61 rfl ?_
                  refine jJ_iconst (pc := 62) dX7_gap_62 (by decide) ?_
                  refine jJ_icmp_ne (pc := 63) (tgt := 75) dX7_gap_63 (by decide) (fun c63 => ?_) (fun c63 => ?_)
                  · refine jJ_iload_n (pc := 75) dX7_gap_75 rfl ?_
                    refine jJ_iconst (pc := 76) dX7_gap_76 (by decide) ?_
                    refine jJ_icmp_ne (pc := 77) (tgt := 97) dX7_gap_77 (by decide) (fun c77 => ?_) (fun c77 => ?_)
                    · refine jJ_aload_n (pc := 97) dX7_gap_97 rfl ?_
                      refine jJ_iload_n (pc := 98) dX7_gap_98 rfl ?_
                      refine jJ_iload_n (pc := 99) dX7_gap_99 rfl ?_
                      refine jJ_callVd (pc := 100) (as := [_, _]) dX7_gap_100 mX7_232 (jRcv_of hR.1 rfl rfl) (Nat.le_of_ble_eq_true rfl) (jRm_ok (by omega) (by decide)) (x_testsOf (d := d - 1) hR hT0 hW (by omega) hi) ?_
                      try simp only [e14]
                      refine jJ_iret (pc := 103) dX7_gap_103 rfl ?_
                      first | (exfalso; omega) | exact ⟨rfl, Or.inl ⟨by rw [rTh, Int.toNat_natCast]; exact ht, by omega, by omega, by unfold gpV; (repeat' split) <;> first | rfl | (exfalso; omega), rfl⟩⟩
                    · refine jJ_aload_n (pc := 80) dX7_gap_80 rfl ?_
                      refine jJ_getr (pc := 81) dX7_gap_81 fX7_45 rfl hR.1 hR.p14 ?_
                      try simp only [e14]
                      refine jJ_sipush (pc := 84) dX7_gap_84 (by decide) ?_
                      refine jJ_iload_n (pc := 87) dX7_gap_87 rfl ?_
                      refine jJ_imul (pc := 88) dX7_gap_88 ⟨by omega, by omega⟩ ?_
                      refine jJ_iload_n (pc := 89) dX7_gap_89 rfl ?_
                      refine jJ_iadd (pc := 90) dX7_gap_90 ⟨by omega, by omega⟩ ?_
                      refine jJ_iconst (pc := 91) dX7_gap_91 (by decide) ?_
                      refine jJ_iadd (pc := 92) dX7_gap_92 ⟨by omega, by omega⟩ ?_
                      refine jJ_iald (pc := 93) dX7_gap_93 hR.a14 ⟨by omega, by omega⟩ ?_
                      try simp only [e14]
                      refine jJ_goto (pc := 94) (tgt := 103) dX7_gap_94 (by decide) ?_
                      refine jJ_iret (pc := 103) dX7_gap_103 rfl ?_
                      first | (exfalso; omega) | exact ⟨rfl, Or.inl ⟨by rw [rTh, Int.toNat_natCast]; exact ht, by omega, by omega, by unfold gpV; (repeat' split) <;> first | rfl | (exfalso; omega), rfl⟩⟩
                  · refine jJ_aload_n (pc := 66) dX7_gap_66 rfl ?_
                    refine jJ_iload_n (pc := 67) dX7_gap_67 rfl ?_
                    refine jJ_iload_n (pc := 68) dX7_gap_68 rfl ?_
                    refine jJ_callVd (pc := 69) (as := [_, _]) dX7_gap_69 mX7_229 (jRcv_of hR.1 rfl rfl) (Nat.le_of_ble_eq_true rfl) (jRm_ok (by omega) (by decide)) (x_choiceOf (d := d - 1) hR hT0 hW (by omega) hi) ?_
                    try simp only [e14]
                    refine jJ_goto (pc := 72) (tgt := 103) dX7_gap_72 (by decide) ?_
                    refine jJ_iret (pc := 103) dX7_gap_103 rfl ?_
                    first | (exfalso; omega) | exact ⟨rfl, Or.inl ⟨by rw [rTh, Int.toNat_natCast]; exact ht, by omega, by omega, by unfold gpV; (repeat' split) <;> first | rfl | (exfalso; omega), rfl⟩⟩
                · refine jJ_aload_n (pc := 52) dX7_gap_52 rfl ?_
                  refine jJ_iload_n (pc := 53) dX7_gap_53 rfl ?_
                  refine jJ_iload_n (pc := 54) dX7_gap_54 rfl ?_
                  refine jJ_callVd (pc := 55) (as := [_, _]) dX7_gap_55 mX7_226 (jRcv_of hR.1 rfl rfl) (Nat.le_of_ble_eq_true rfl) (jRm_ok (by omega) (by decide)) (x_kindOf (d := d - 1) hR hT0 hW (by omega) hi (by omega)) ?_
                  try simp only [e14]
                  refine jJ_goto (pc := 58) (tgt := 103) dX7_gap_58 (by decide) ?_
                  refine jJ_iret (pc := 103) dX7_gap_103 rfl ?_
                  first | (exfalso; omega) | exact ⟨rfl, Or.inl ⟨by rw [rTh, Int.toNat_natCast]; exact ht, by omega, by omega, by unfold gpV; (repeat' split) <;> first | rfl | (exfalso; omega), rfl⟩⟩
              · refine jJ_iconst (pc := 46) dX7_gap_46 (by decide) ?_
                refine jJ_iret (pc := 47) dX7_gap_47 rfl ?_
                first | (exfalso; omega) | exact ⟨rfl, Or.inl ⟨by rw [rTh, Int.toNat_natCast]; exact ht, by omega, by omega, by unfold gpV; (repeat' split) <;> first | rfl | (exfalso; omega), rfl⟩⟩
  · rw [← jb_f ht, thM_f ht]
    refine jJ_if_eq (pc := 5) (tgt := 46) dX7_gap_5 (by decide) (fun c5 => ?_) (fun c5 => ?_)
    · refine jJ_iconst (pc := 46) dX7_gap_46 (by decide) ?_
      refine jJ_iret (pc := 47) dX7_gap_47 rfl ?_
      exact ⟨rfl, Or.inr ⟨fun z => ht z.1, rfl, rfl⟩⟩
    · exact absurd rfl c5
/-- how many gaps of a kind and a choice the k TEXTS from t on have -/
def seX (th : Nat → Int) (X : Nat → TX) (kd ch : Int) : Nat → Nat → Int
  | _, 0 => 0
  | t, k + 1 => (if th t ≠ 0 then cntG (xKd (X t)) (xCh (X t)) kd ch 0 ((xT (X t)).length - 1) else 0) + seX th X kd ch (t + 1) k
theorem rseen_in {Z : Code → List Frame → Array Value → State → State → Prop} {J : jI} {kd ch : Int} {n : Nat} (hR : RfL E P m a) (hT : RT J a t x) (hW : WX x) (h5 : J (a 5) t ≠ 0) (ht : t < 12) (hn : n = (xT x).length - 1) (hd : 3 ≤ d) :
    ∀ (k i : Nat) (c : Int), i + k = n → 0 ≤ c → c ≤ 100000 + i → (∀ z, jJ E yX7_seen.cls cX7_seen 6 (some .int) (jRm d) Z 0 0 117 [some (jp m), some (ji kd), some (ji ch), some (ji (c + cntG (xKd x) (xCh x) kd ch i k)), some (ji (t : Int)), z] [] J P) → jJ E yX7_seen.cls cX7_seen 6 (some .int) (jRm d) Z 0 0 55 [some (jp m), some (ji kd), some (ji ch), some (ji c), some (ji (t : Int)), some (ji (i : Int))] [] J P := by
  have hl := hW.2.2.2.1
  have e9 : J (a 9) ((t : Int).toNat) = ((xT x).length : Int) := by rw [Int.toNat_natCast]; exact hT.2.2.1
  have e5 : J (a 5) ((t : Int).toNat) ≠ 0 := by rw [Int.toNat_natCast]; exact h5
  intro k
  induction k with
  | zero =>
    intro i c hi h1 h2 kk
    refine jJ_aload_n (pc := 55) dX7_seen_55 rfl ?_
    refine jJ_getr (pc := 56) dX7_seen_56 fX7_17 rfl hR.1 hR.p5 ?_
    refine jJ_iload (pc := 59) dX7_seen_59 rfl ?_
    refine jJ_zald (pc := 61) dX7_seen_61 hR.a5 ⟨by omega, by omega⟩ ?_
    refine jJ_if_eq (pc := 62) (tgt := 117) dX7_seen_62 (by decide) (fun c62 => ?_) (fun c62 => ?_)
    · exact absurd c62 e5
    · refine jJ_iload (pc := 65) dX7_seen_65 rfl ?_
      refine jJ_aload_n (pc := 67) dX7_seen_67 rfl ?_
      refine jJ_getr (pc := 68) dX7_seen_68 fX7_30 rfl hR.1 hR.p9 ?_
      try simp only [e9]
      refine jJ_iload (pc := 71) dX7_seen_71 rfl ?_
      refine jJ_iald (pc := 73) dX7_seen_73 hR.a9 ⟨by omega, by omega⟩ ?_
      try simp only [e9]
      refine jJ_iconst (pc := 74) dX7_seen_74 (by decide) ?_
      refine jJ_isub (pc := 75) dX7_seen_75 ⟨by omega, by omega⟩ ?_
      refine jJ_icmp_ge (pc := 76) (tgt := 117) dX7_seen_76 (by decide) (fun c76 => ?_) (fun c76 => ?_)
      · have := kk (some (ji (i : Int)))
        rw [cntG, Int.add_zero] at this
        exact this
      · exfalso
        omega
  | succ k ih =>
    intro i c hi h1 h2 kk
    have nx : ∀ c', c' = c + (if xKd x i = kd ∧ (ch = -1 ∨ xCh x i = ch) then 1 else 0) → jJ E yX7_seen.cls cX7_seen 6 (some .int) (jRm d) Z 0 0 111 [some (jp m), some (ji kd), some (ji ch), some (ji c'), some (ji (t : Int)), some (ji (i : Int))] [] J P := by
      intro c' hc'
      have hc2 : c ≤ c' ∧ c' ≤ c + 1 := by rw [hc']; split <;> omega
      refine jJ_iinc (pc := 111) (ls' := [_, _, _, _, _, _]) dX7_seen_111 rfl ⟨by omega, by omega⟩ rfl ?_
      refine jJ_goto (pc := 114) (tgt := 55) dX7_seen_114 (by decide) ?_
      refine ih (i + 1) c' (by omega) (by omega) (by omega) (fun z => ?_)
      have := kk z
      rw [cntG, ← Int.add_assoc, ← hc'] at this
      exact this
    refine jJ_aload_n (pc := 55) dX7_seen_55 rfl ?_
    refine jJ_getr (pc := 56) dX7_seen_56 fX7_17 rfl hR.1 hR.p5 ?_
    refine jJ_iload (pc := 59) dX7_seen_59 rfl ?_
    refine jJ_zald (pc := 61) dX7_seen_61 hR.a5 ⟨by omega, by omega⟩ ?_
    refine jJ_if_eq (pc := 62) (tgt := 117) dX7_seen_62 (by decide) (fun c62 => ?_) (fun c62 => ?_)
    · exact absurd c62 e5
    · refine jJ_iload (pc := 65) dX7_seen_65 rfl ?_
      refine jJ_aload_n (pc := 67) dX7_seen_67 rfl ?_
      refine jJ_getr (pc := 68) dX7_seen_68 fX7_30 rfl hR.1 hR.p9 ?_
      try simp only [e9]
      refine jJ_iload (pc := 71) dX7_seen_71 rfl ?_
      refine jJ_iald (pc := 73) dX7_seen_73 hR.a9 ⟨by omega, by omega⟩ ?_
      try simp only [e9]
      refine jJ_iconst (pc := 74) dX7_seen_74 (by decide) ?_
      refine jJ_isub (pc := 75) dX7_seen_75 ⟨by omega, by omega⟩ ?_
      refine jJ_icmp_ge (pc := 76) (tgt := 117) dX7_seen_76 (by decide) (fun c76 => ?_) (fun c76 => ?_)
      · exfalso
        omega
      · refine jJ_aload_n (pc := 79) dX7_seen_79 rfl ?_
        refine jJ_iload (pc := 80) dX7_seen_80 rfl ?_
        refine jJ_iload (pc := 82) dX7_seen_82 rfl ?_
        refine jJ_callVd (pc := 84) (as := [_, _]) dX7_seen_84 mX7_226 (jRcv_of hR.1 rfl rfl) (Nat.le_of_ble_eq_true rfl) (jRm_ok (by omega) (by decide)) (x_kindOf (d := d - 1) hR hT hW ht (by omega) (by omega)) ?_
        refine jJ_iload_n (pc := 87) dX7_seen_87 rfl ?_
        refine jJ_icmp_ne (pc := 88) (tgt := 111) dX7_seen_88 (by decide) (fun c88 => ?_) (fun c88 => ?_)
        · exact nx c (by rw [if_neg (fun z => c88 z.1)]; omega)
        · refine jJ_iload_n (pc := 91) dX7_seen_91 rfl ?_
          refine jJ_iconst (pc := 92) dX7_seen_92 (by decide) ?_
          refine jJ_icmp_eq (pc := 93) (tgt := 108) dX7_seen_93 (by decide) (fun c93 => ?_) (fun c93 => ?_)
          · refine jJ_iinc (pc := 108) (ls' := [_, _, _, _, _, _]) dX7_seen_108 rfl ⟨by omega, by omega⟩ rfl ?_
            exact nx (c + 1) (by rw [if_pos ⟨c88, Or.inl c93⟩])
          · refine jJ_aload_n (pc := 96) dX7_seen_96 rfl ?_
            refine jJ_iload (pc := 97) dX7_seen_97 rfl ?_
            refine jJ_iload (pc := 99) dX7_seen_99 rfl ?_
            refine jJ_callVd (pc := 101) (as := [_, _]) dX7_seen_101 mX7_229 (jRcv_of hR.1 rfl rfl) (Nat.le_of_ble_eq_true rfl) (jRm_ok (by omega) (by decide)) (x_choiceOf (d := d - 1) hR hT hW ht (by omega)) ?_
            refine jJ_iload_n (pc := 104) dX7_seen_104 rfl ?_
            refine jJ_icmp_ne (pc := 105) (tgt := 111) dX7_seen_105 (by decide) (fun c105 => ?_) (fun c105 => ?_)
            · exact nx c (by rw [if_neg (by rintro ⟨z1, z2 | z2⟩; exact c93 z2; exact c105 z2)]; omega)
            · refine jJ_iinc (pc := 108) (ls' := [_, _, _, _, _, _]) dX7_seen_108 rfl ⟨by omega, by omega⟩ rfl ?_
              exact nx (c + 1) (by rw [if_pos ⟨c88, Or.inr c105⟩])
theorem rseen_out {J : jI} {X : Nat → TX} {kd ch : Int} (hR : RfL E P m a) (hX : RTs J a X) (hd : 3 ≤ d) :
    ∀ (k t : Nat) (c : Int) (z : Option jV), t + k = 12 → 0 ≤ c → c ≤ 200 * t → jJ E yX7_seen.cls cX7_seen 6 (some .int) (jRm d) (jZ E (jD (some (ji (c + seX (J (a 5)) X kd ch t k))) J P)) 0 0 45 [some (jp m), some (ji kd), some (ji ch), some (ji c), some (ji (t : Int)), z] [] J P := by
  intro k
  induction k with
  | zero =>
    intro t c z ht h1 h2
    refine jJ_iload (pc := 45) dX7_seen_45 rfl ?_
    refine jJ_bipush (pc := 47) dX7_seen_47 (by decide) ?_
    refine jJ_icmp_ge (pc := 49) (tgt := 123) dX7_seen_49 (by decide) (fun c49 => ?_) (fun c49 => ?_)
    · refine jJ_iload_n (pc := 123) dX7_seen_123 rfl ?_
      refine jJ_iret (pc := 124) dX7_seen_124 rfl ?_
      exact ⟨by rw [seX, Int.add_zero], rfl, rfl⟩
    · exfalso
      omega
  | succ k ih =>
    intro t c z ht h1 h2
    refine jJ_iload (pc := 45) dX7_seen_45 rfl ?_
    refine jJ_bipush (pc := 47) dX7_seen_47 (by decide) ?_
    refine jJ_icmp_ge (pc := 49) (tgt := 123) dX7_seen_49 (by decide) (fun c49 => ?_) (fun c49 => ?_)
    · exfalso
      omega
    · by_cases h5 : J (a 5) t = 0
      · refine jJ_iconst (pc := 52) dX7_seen_52 (by decide) ?_
        refine jJ_istore (pc := 53) (ls' := [_, _, _, _, _, _]) dX7_seen_53 (Nat.le_of_ble_eq_true rfl) rfl ?_
        refine jJ_aload_n (pc := 55) dX7_seen_55 rfl ?_
        refine jJ_getr (pc := 56) dX7_seen_56 fX7_17 rfl hR.1 hR.p5 ?_
        try simp only [Int.toNat_natCast, h5]
        refine jJ_iload (pc := 59) dX7_seen_59 rfl ?_
        refine jJ_zald (pc := 61) dX7_seen_61 hR.a5 ⟨by omega, by omega⟩ ?_
        try simp only [Int.toNat_natCast, h5]
        refine jJ_if_eq (pc := 62) (tgt := 117) dX7_seen_62 (by decide) (fun c62 => ?_) (fun c62 => ?_)
        · refine jJ_iinc (pc := 117) (ls' := [_, _, _, _, _, _]) dX7_seen_117 rfl ⟨by omega, by omega⟩ rfl ?_
          refine jJ_goto (pc := 120) (tgt := 45) dX7_seen_120 (by decide) ?_
          rw [seX, if_neg (by simp [h5]), Int.zero_add]
          exact ih (t + 1) c _ (by omega) h1 (by omega)
        · exact absurd rfl c62
      · obtain ⟨hT, hW⟩ := hX t (by omega) h5
        have hl := hW.2.2.2.1
        have hr := cntG_rng (xKd (X t)) (xCh (X t)) kd ch ((xT (X t)).length - 1) 0
        refine jJ_iconst (pc := 52) dX7_seen_52 (by decide) ?_
        refine jJ_istore (pc := 53) (ls' := [_, _, _, _, _, _]) dX7_seen_53 (Nat.le_of_ble_eq_true rfl) rfl ?_
        refine rseen_in hR hT hW h5 (by omega) rfl hd ((xT (X t)).length - 1) 0 c (by omega) h1 (by omega) (fun z' => ?_)
        refine jJ_iinc (pc := 117) (ls' := [_, _, _, _, _, _]) dX7_seen_117 rfl ⟨by omega, by omega⟩ rfl ?_
        refine jJ_goto (pc := 120) (tgt := 45) dX7_seen_120 (by decide) ?_
        rw [seX, if_pos h5, ← Int.add_assoc]
        exact ih (t + 1) _ _ (by omega) (by omega) (by omega)
theorem r_seen {X : Nat → TX} {kd ch : Int} (hR : RfL E P m a) (hX : RTs I a X) (hd : 3 ≤ d) : jC E yX7_seen cX7_seen 6 (some .int) d [jp m, ji kd, ji ch] I P (jD (some (ji (if (0 ≤ kd ∧ kd ≤ 15) ∧ -1 ≤ ch ∧ ch ≤ 3 then seX (I (a 5)) X kd ch 0 12 else 0))) (jput I m 0 (if (0 ≤ kd ∧ kd ≤ 15) ∧ -1 ≤ ch ∧ ch ≤ 3 then 0 else 1)) P) := by
  have e5 : jput I m 0 0 (a 5) = I (a 5) := jput_row hR.n5
  have k40 : ((0 ≤ kd ∧ kd ≤ 15) ∧ -1 ≤ ch ∧ ch ≤ 3) → jJ E yX7_seen.cls cX7_seen 6 (some .int) (jRm d) (jZ E (jD (some (ji (if (0 ≤ kd ∧ kd ≤ 15) ∧ -1 ≤ ch ∧ ch ≤ 3 then seX (I (a 5)) X kd ch 0 12 else 0))) (jput I m 0 (if (0 ≤ kd ∧ kd ≤ 15) ∧ -1 ≤ ch ∧ ch ≤ 3 then 0 else 1)) P)) 0 0 40 [some (jp m), some (ji kd), some (ji ch), none, none, none] [] (jput I m 0 0) P := by
    intro hc
    rw [if_pos hc, if_pos hc]
    refine jJ_iconst (pc := 40) dX7_seen_40 (by decide) ?_
    refine jJ_istore_n (pc := 41) (ls' := [_, _, _, _, _, _]) dX7_seen_41 (Nat.le_of_ble_eq_true rfl) rfl ?_
    refine jJ_iconst (pc := 42) dX7_seen_42 (by decide) ?_
    refine jJ_istore (pc := 43) (ls' := [_, _, _, _, _, _]) dX7_seen_43 (Nat.le_of_ble_eq_true rfl) rfl ?_
    have k := rseen_out (d := d) (kd := kd) (ch := ch) hR (hX.pm (k := 0) (v := 0) hR) hd 12 0 0 none (by omega) (by omega) (by omega)
    rw [e5, Int.zero_add] at k
    exact k
  refine jC_intro (by decide +kernel) (by simp [jc, va_rf, Value.category]) (Nat.le_of_ble_eq_true rfl) ?_
  refine jJ_aload_n (pc := 0) dX7_seen_0 rfl ?_
  refine jJ_iconst (pc := 1) dX7_seen_1 (by decide) ?_
  refine jJ_puti (pc := 2) dX7_seen_2 fX7_78w rfl ⟨rfl, rfl⟩ hR.1 ?_
  try simp only [rgT, rgF, jput_s, jb_00, jb_10, jb_T, jb_F]
  refine jJ_aload_n (pc := 5) dX7_seen_5 rfl ?_
  refine jJ_iload_n (pc := 6) dX7_seen_6 rfl ?_
  refine jJ_if_lt (pc := 7) (tgt := 30) dX7_seen_7 (by decide) (fun c7 => ?_) (fun c7 => ?_)
  · refine jJ_iconst (pc := 30) dX7_seen_30 (by decide) ?_
    refine jJ_iconst (pc := 31) dX7_seen_31 (by decide) ?_
    refine jJ_callVd (pc := 32) (as := [_, _]) dX7_seen_32 mX7_208 (jRcv_of hR.1 rfl rfl) (Nat.le_of_ble_eq_true rfl) (jRm_ok (by omega) (by decide)) (r_right (d := d - 1) hR) ?_
    try simp only [rgT, rgF, jput_s, jb_00, jb_10, jb_T, jb_F]
    refine jJ_if_ne (pc := 35) (tgt := 40) dX7_seen_35 (by decide) (fun c35 => ?_) (fun c35 => ?_)
    · first | (exfalso; omega) | exact k40 (by omega)
    · refine jJ_iconst (pc := 38) dX7_seen_38 (by decide) ?_
      refine jJ_iret (pc := 39) dX7_seen_39 rfl ?_
      first | (exfalso; omega) | exact ⟨by (repeat' split) <;> first | rfl | (exfalso; omega), by (repeat' split) <;> first | rfl | (exfalso; omega), rfl⟩
  · refine jJ_iload_n (pc := 10) dX7_seen_10 rfl ?_
    refine jJ_bipush (pc := 11) dX7_seen_11 (by decide) ?_
    refine jJ_icmp_gt (pc := 13) (tgt := 30) dX7_seen_13 (by decide) (fun c13 => ?_) (fun c13 => ?_)
    · refine jJ_iconst (pc := 30) dX7_seen_30 (by decide) ?_
      refine jJ_iconst (pc := 31) dX7_seen_31 (by decide) ?_
      refine jJ_callVd (pc := 32) (as := [_, _]) dX7_seen_32 mX7_208 (jRcv_of hR.1 rfl rfl) (Nat.le_of_ble_eq_true rfl) (jRm_ok (by omega) (by decide)) (r_right (d := d - 1) hR) ?_
      try simp only [rgT, rgF, jput_s, jb_00, jb_10, jb_T, jb_F]
      refine jJ_if_ne (pc := 35) (tgt := 40) dX7_seen_35 (by decide) (fun c35 => ?_) (fun c35 => ?_)
      · first | (exfalso; omega) | exact k40 (by omega)
      · refine jJ_iconst (pc := 38) dX7_seen_38 (by decide) ?_
        refine jJ_iret (pc := 39) dX7_seen_39 rfl ?_
        first | (exfalso; omega) | exact ⟨by (repeat' split) <;> first | rfl | (exfalso; omega), by (repeat' split) <;> first | rfl | (exfalso; omega), rfl⟩
    · refine jJ_iload_n (pc := 16) dX7_seen_16 rfl ?_
      refine jJ_iconst (pc := 17) dX7_seen_17 (by decide) ?_
      refine jJ_icmp_lt (pc := 18) (tgt := 30) dX7_seen_18 (by decide) (fun c18 => ?_) (fun c18 => ?_)
      · refine jJ_iconst (pc := 30) dX7_seen_30 (by decide) ?_
        refine jJ_iconst (pc := 31) dX7_seen_31 (by decide) ?_
        refine jJ_callVd (pc := 32) (as := [_, _]) dX7_seen_32 mX7_208 (jRcv_of hR.1 rfl rfl) (Nat.le_of_ble_eq_true rfl) (jRm_ok (by omega) (by decide)) (r_right (d := d - 1) hR) ?_
        try simp only [rgT, rgF, jput_s, jb_00, jb_10, jb_T, jb_F]
        refine jJ_if_ne (pc := 35) (tgt := 40) dX7_seen_35 (by decide) (fun c35 => ?_) (fun c35 => ?_)
        · first | (exfalso; omega) | exact k40 (by omega)
        · refine jJ_iconst (pc := 38) dX7_seen_38 (by decide) ?_
          refine jJ_iret (pc := 39) dX7_seen_39 rfl ?_
          first | (exfalso; omega) | exact ⟨by (repeat' split) <;> first | rfl | (exfalso; omega), by (repeat' split) <;> first | rfl | (exfalso; omega), rfl⟩
      · refine jJ_iload_n (pc := 21) dX7_seen_21 rfl ?_
        refine jJ_iconst (pc := 22) dX7_seen_22 (by decide) ?_
        refine jJ_icmp_gt (pc := 23) (tgt := 30) dX7_seen_23 (by decide) (fun c23 => ?_) (fun c23 => ?_)
        · refine jJ_iconst (pc := 30) dX7_seen_30 (by decide) ?_
          refine jJ_iconst (pc := 31) dX7_seen_31 (by decide) ?_
          refine jJ_callVd (pc := 32) (as := [_, _]) dX7_seen_32 mX7_208 (jRcv_of hR.1 rfl rfl) (Nat.le_of_ble_eq_true rfl) (jRm_ok (by omega) (by decide)) (r_right (d := d - 1) hR) ?_
          try simp only [rgT, rgF, jput_s, jb_00, jb_10, jb_T, jb_F]
          refine jJ_if_ne (pc := 35) (tgt := 40) dX7_seen_35 (by decide) (fun c35 => ?_) (fun c35 => ?_)
          · first | (exfalso; omega) | exact k40 (by omega)
          · refine jJ_iconst (pc := 38) dX7_seen_38 (by decide) ?_
            refine jJ_iret (pc := 39) dX7_seen_39 rfl ?_
            first | (exfalso; omega) | exact ⟨by (repeat' split) <;> first | rfl | (exfalso; omega), by (repeat' split) <;> first | rfl | (exfalso; omega), rfl⟩
        · refine jJ_iconst (pc := 26) dX7_seen_26 (by decide) ?_
          refine jJ_goto (pc := 27) (tgt := 31) dX7_seen_27 (by decide) ?_
          refine jJ_iconst (pc := 31) dX7_seen_31 (by decide) ?_
          refine jJ_callVd (pc := 32) (as := [_, _]) dX7_seen_32 mX7_208 (jRcv_of hR.1 rfl rfl) (Nat.le_of_ble_eq_true rfl) (jRm_ok (by omega) (by decide)) (r_right (d := d - 1) hR) ?_
          try simp only [rgT, rgF, jput_s, jb_00, jb_10, jb_T, jb_F]
          refine jJ_if_ne (pc := 35) (tgt := 40) dX7_seen_35 (by decide) (fun c35 => ?_) (fun c35 => ?_)
          · first | (exfalso; omega) | exact k40 (by omega)
          · refine jJ_iconst (pc := 38) dX7_seen_38 (by decide) ?_
            refine jJ_iret (pc := 39) dX7_seen_39 rfl ?_
            first | (exfalso; omega) | exact ⟨by (repeat' split) <;> first | rfl | (exfalso; omega), by (repeat' split) <;> first | rfl | (exfalso; omega), rfl⟩
theorem rexc_loop {J : jI} {S : Nat → Nat → Int} {n : Nat} {j : Int} (hR : RfL E P m a) (hT : RT J a t x) (hW : WX x) (hS : RS J a S) (ht : t < 12) (hn : n = (xT x).length - 1) (hj : -1 ≤ j) (hd : 4 ≤ d) :
    ∀ (k g : Nat) (c : Int), g + k = n → 0 ≤ c → c ≤ g → jJ E yX7_exception.cls cX7_exception 5 (some .int) (jRm d) (jZ E (jD (some (ji (excV (fun g => decide (xTol S x g ≠ xCh x g)) j k g c))) J P)) 0 0 42 [some (jp m), some (ji (t : Int)), some (ji j), some (ji c), some (ji (g : Int))] [] J P := by
  have hl := hW.2.2.2.1
  have e9 : J (a 9) ((t : Int).toNat) = ((xT x).length : Int) := by rw [Int.toNat_natCast]; exact hT.2.2.1
  intro k
  induction k with
  | zero =>
    intro g c hg h1 h2
    refine jJ_iload (pc := 42) dX7_exception_42 rfl ?_
    refine jJ_aload_n (pc := 44) dX7_exception_44 rfl ?_
    refine jJ_getr (pc := 45) dX7_exception_45 fX7_30 rfl hR.1 hR.p9 ?_
    try simp only [e9]
    refine jJ_iload_n (pc := 48) dX7_exception_48 rfl ?_
    refine jJ_iald (pc := 49) dX7_exception_49 hR.a9 ⟨by omega, by omega⟩ ?_
    try simp only [e9]
    refine jJ_iconst (pc := 50) dX7_exception_50 (by decide) ?_
    refine jJ_isub (pc := 51) dX7_exception_51 ⟨by omega, by omega⟩ ?_
    refine jJ_icmp_ge (pc := 52) (tgt := 92) dX7_exception_52 (by decide) (fun c52 => ?_) (fun c52 => ?_)
    · refine jJ_iload_n (pc := 92) dX7_exception_92 rfl ?_
      refine jJ_iconst (pc := 93) dX7_exception_93 (by decide) ?_
      refine jJ_icmp_ne (pc := 94) (tgt := 101) dX7_exception_94 (by decide) (fun c94 => ?_) (fun c94 => ?_)
      · refine jJ_iconst (pc := 101) dX7_exception_101 (by decide) ?_
        refine jJ_iret (pc := 102) dX7_exception_102 rfl ?_
        exact ⟨by simp only [excV]; split <;> first | rfl | (exfalso; omega), rfl, rfl⟩
      · refine jJ_iload_n (pc := 97) dX7_exception_97 rfl ?_
        refine jJ_goto (pc := 98) (tgt := 102) dX7_exception_98 (by decide) ?_
        refine jJ_iret (pc := 102) dX7_exception_102 rfl ?_
        exact ⟨by simp only [excV]; split <;> first | rfl | (exfalso; omega), rfl, rfl⟩
    · exfalso
      omega
  | succ k ih =>
    intro g c hg h1 h2
    refine jJ_iload (pc := 42) dX7_exception_42 rfl ?_
    refine jJ_aload_n (pc := 44) dX7_exception_44 rfl ?_
    refine jJ_getr (pc := 45) dX7_exception_45 fX7_30 rfl hR.1 hR.p9 ?_
    try simp only [e9]
    refine jJ_iload_n (pc := 48) dX7_exception_48 rfl ?_
    refine jJ_iald (pc := 49) dX7_exception_49 hR.a9 ⟨by omega, by omega⟩ ?_
    try simp only [e9]
    refine jJ_iconst (pc := 50) dX7_exception_50 (by decide) ?_
    refine jJ_isub (pc := 51) dX7_exception_51 ⟨by omega, by omega⟩ ?_
    refine jJ_icmp_ge (pc := 52) (tgt := 92) dX7_exception_52 (by decide) (fun c52 => ?_) (fun c52 => ?_)
    · exfalso
      omega
    · refine jJ_aload_n (pc := 55) dX7_exception_55 rfl ?_
      refine jJ_iload_n (pc := 56) dX7_exception_56 rfl ?_
      refine jJ_iload (pc := 57) dX7_exception_57 rfl ?_
      refine jJ_callVd (pc := 59) (as := [_, _]) dX7_exception_59 mX7_261 (jRcv_of hR.1 rfl rfl) (Nat.le_of_ble_eq_true rfl) (jRm_ok (by omega) (by decide)) (x_toldAt (d := d - 1) hR hT hW hS ht (by omega) (by omega)) ?_
      refine jJ_aload_n (pc := 62) dX7_exception_62 rfl ?_
      refine jJ_iload_n (pc := 63) dX7_exception_63 rfl ?_
      refine jJ_iload (pc := 64) dX7_exception_64 rfl ?_
      refine jJ_callVd (pc := 66) (as := [_, _]) dX7_exception_66 mX7_229 (jRcv_of hR.1 rfl rfl) (Nat.le_of_ble_eq_true rfl) (jRm_ok (by omega) (by decide)) (x_choiceOf (d := d - 1) hR hT hW ht (by omega)) ?_
      refine jJ_icmp_ne (pc := 69) (tgt := 75) dX7_exception_69 (by decide) (fun c69 => ?_) (fun c69 => ?_)
      · rw [excV, if_pos (by simp [c69])]
        refine jJ_iload_n (pc := 75) dX7_exception_75 rfl ?_
        refine jJ_iload_n (pc := 76) dX7_exception_76 rfl ?_
        refine jJ_icmp_ne (pc := 77) (tgt := 83) dX7_exception_77 (by decide) (fun c77 => ?_) (fun c77 => ?_)
        · rw [if_neg c77]
          refine jJ_iinc (pc := 83) (ls' := [_, _, _, _, _]) dX7_exception_83 rfl ⟨by omega, by omega⟩ rfl ?_
          refine jJ_iinc (pc := 86) (ls' := [_, _, _, _, _]) dX7_exception_86 rfl ⟨by omega, by omega⟩ rfl ?_
          refine jJ_goto (pc := 89) (tgt := 42) dX7_exception_89 (by decide) ?_
          exact ih (g + 1) (c + 1) (by omega) (by omega) (by omega)
        · rw [if_pos c77]
          refine jJ_iload (pc := 80) dX7_exception_80 rfl ?_
          refine jJ_iret (pc := 82) dX7_exception_82 rfl ?_
          exact ⟨rfl, rfl, rfl⟩
      · rw [excV, if_neg (by simp [c69])]
        refine jJ_goto (pc := 72) (tgt := 86) dX7_exception_72 (by decide) ?_
        refine jJ_iinc (pc := 86) (ls' := [_, _, _, _, _]) dX7_exception_86 rfl ⟨by omega, by omega⟩ rfl ?_
        refine jJ_goto (pc := 89) (tgt := 42) dX7_exception_89 (by decide) ?_
        exact ih (g + 1) c (by omega) h1 (by omega)
theorem r_exception {X : Nat → TX} {S : Nat → Nat → Int} {t i : Int} (hR : RfL E P m a) (hX : RTs I a X) (hS : I m 16 ≠ 0 → RS I a S) (hd : 4 ≤ d) : jC E yX7_exception cX7_exception 5 (some .int) d [jp m, ji t, ji i] I P (fun v I' P' => P' = P ∧ ((rTh I a t ∧ -1 ≤ i ∧ v = some (ji (if I m 16 = 0 then -1 else excV (fun g => decide (xTol S (X t.toNat) g ≠ xCh (X t.toNat) g)) i ((xT (X t.toNat)).length - 1) 0 0)) ∧ I' = jput I m 0 0) ∨ (¬ rTh I a t ∧ v = some (ji 0) ∧ I' = jput I m 0 1) ∨ (rTh I a t ∧ ¬ -1 ≤ i ∧ v = some (ji 0) ∧ I' = jput I m 0 2))) := by
  refine jC_intro (by decide +kernel) (by simp [jc, va_rf, Value.category]) (Nat.le_of_ble_eq_true rfl) ?_
  refine jJ_aload_n (pc := 0) dX7_exception_0 rfl ?_
  refine jJ_iload_n (pc := 1) dX7_exception_1 rfl ?_
  refine jJ_callVd (pc := 2) (as := [_]) dX7_exception_2 mX7_216 (jRcv_of hR.1 rfl rfl) (Nat.le_of_ble_eq_true rfl) (jRm_ok (by omega) (by decide)) (r_isThere (d := d - 1) hR (by omega)) ?_
  by_cases ht : 0 ≤ t ∧ t < 12 ∧ I (a 5) t.toNat ≠ 0
  · obtain ⟨hT, hW⟩ := hX t.toNat (by omega) ht.2.2
    have hT0 : RT (jput I m 0 0) a t.toNat (X t.toNat) := hT.cg (fun j h1 h2 => jput_row (hR.nm (rfK_515 j (by omega) h2)))
    obtain ⟨t', rfl⟩ : ∃ t' : Nat, t = (t' : Int) := ⟨t.toNat, by omega⟩
    rw [Int.toNat_natCast] at *
    rw [← jb_t ht, thM_t ht]
    have e16 : jput I m 0 0 m 16 = I m 16 := jput_k I (by decide)
    refine jJ_if_eq (pc := 5) (tgt := 26) dX7_exception_5 (by decide) (fun c5 => ?_) (fun c5 => ?_)
    · exact absurd c5 (by decide)
    · refine jJ_aload_n (pc := 8) dX7_exception_8 rfl ?_
      refine jJ_iload_n (pc := 9) dX7_exception_9 rfl ?_
      refine jJ_iconst (pc := 10) dX7_exception_10 (by decide) ?_
      refine jJ_icmp_lt (pc := 11) (tgt := 18) dX7_exception_11 (by decide) (fun c11 => ?_) (fun c11 => ?_)
      · refine jJ_iconst (pc := 18) dX7_exception_18 (by decide) ?_
        refine jJ_iconst (pc := 19) dX7_exception_19 (by decide) ?_
        refine jJ_callVd (pc := 20) (as := [_, _]) dX7_exception_20 mX7_208 (jRcv_of hR.1 rfl rfl) (Nat.le_of_ble_eq_true rfl) (jRm_ok (by omega) (by decide)) (r_right (d := d - 1) hR) ?_
        rw [rgF, jput_s, ← jb_f (by decide)]
        refine jJ_if_ne (pc := 23) (tgt := 28) dX7_exception_23 (by decide) (fun c23 => ?_) (fun c23 => ?_)
        · exact absurd rfl c23
        · refine jJ_iconst (pc := 26) dX7_exception_26 (by decide) ?_
          refine jJ_iret (pc := 27) dX7_exception_27 rfl ?_
          exact ⟨rfl, Or.inr (Or.inr ⟨by rw [rTh, Int.toNat_natCast]; exact ht, by omega, rfl, rfl⟩)⟩
      · refine jJ_iconst (pc := 14) dX7_exception_14 (by decide) ?_
        refine jJ_goto (pc := 15) (tgt := 19) dX7_exception_15 (by decide) ?_
        refine jJ_iconst (pc := 19) dX7_exception_19 (by decide) ?_
        refine jJ_callVd (pc := 20) (as := [_, _]) dX7_exception_20 mX7_208 (jRcv_of hR.1 rfl rfl) (Nat.le_of_ble_eq_true rfl) (jRm_ok (by omega) (by decide)) (r_right (d := d - 1) hR) ?_
        rw [rgT, jput_s, jb_00]
        refine jJ_if_ne (pc := 23) (tgt := 28) dX7_exception_23 (by decide) (fun c23 => ?_) (fun c23 => ?_)
        · refine jJ_aload_n (pc := 28) dX7_exception_28 rfl ?_
          refine jJ_geti (pc := 29) dX7_exception_29 fX7_257 rfl hR.1 ?_
          try simp only [e16]
          refine jJ_if_ne (pc := 32) (tgt := 37) dX7_exception_32 (by decide) (fun c32 => ?_) (fun c32 => ?_)
          · refine jJ_iconst (pc := 37) dX7_exception_37 (by decide) ?_
            refine jJ_istore_n (pc := 38) (ls' := [_, _, _, _, _]) dX7_exception_38 (Nat.le_of_ble_eq_true rfl) rfl ?_
            refine jJ_iconst (pc := 39) dX7_exception_39 (by decide) ?_
            refine jJ_istore (pc := 40) (ls' := [_, _, _, _, _]) dX7_exception_40 (Nat.le_of_ble_eq_true rfl) rfl ?_
            have hS0 : RS (jput I m 0 0) a S := fun k j h1 h2 => by rw [jput_a I hR.n18]; exact hS c32 k j h1 h2
            refine jJ_mono (rexc_loop (n := (xT (X t')).length - 1) hR hT0 hW hS0 (by omega) rfl (by omega) hd ((xT (X t')).length - 1) 0 0 (by omega) (by omega) (by omega)) ?_
            rintro v I' P' ⟨rfl, rfl, rfl⟩
            exact ⟨rfl, Or.inl ⟨by rw [rTh, Int.toNat_natCast]; exact ht, by omega, by rw [if_neg c32], rfl⟩⟩
          · refine jJ_iconst (pc := 35) dX7_exception_35 (by decide) ?_
            refine jJ_iret (pc := 36) dX7_exception_36 rfl ?_
            exact ⟨rfl, Or.inl ⟨by rw [rTh, Int.toNat_natCast]; exact ht, by omega, by rw [if_pos c32], rfl⟩⟩
        · exact absurd c23 (by decide)
  · rw [← jb_f ht, thM_f ht]
    refine jJ_if_eq (pc := 5) (tgt := 26) dX7_exception_5 (by decide) (fun c5 => ?_) (fun c5 => ?_)
    · refine jJ_iconst (pc := 26) dX7_exception_26 (by decide) ?_
      refine jJ_iret (pc := 27) dX7_exception_27 rfl ?_
      exact ⟨rfl, Or.inr (Or.inl ⟨ht, rfl, rfl⟩)⟩
    · exact absurd rfl c5
end JRPv
