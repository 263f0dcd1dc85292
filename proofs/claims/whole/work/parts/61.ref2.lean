section JRef1
variable {E : jE} {I : jI} {P : jP} {d m : Nat} {a : Nat → Nat}
/-- a number of the TOKEN i of the TEXT t; a byte of the TEXT t -/
def rg (g : Nat → Int) (t i : Int) : Int := g (201 * t + i).toNat
def rby (g6 : Nat → Int) (t : Int) : Int → Int := fun p => g6 (800 * t + p).toNat
/-- the sign that a TOKEN is, or 0 -/
def sgC (g13 g11 g6 : Nat → Int) (t i : Int) : Int := if rg g13 t i = 2 then rby g6 t (rg g11 t i) else 0
theorem r_isSign {t i c : Int} (hR : RfL E P m a) (ht : 0 ≤ t ∧ t ≤ 12) (hi : 0 ≤ i ∧ i ≤ 200) (hb : 0 ≤ rg (I (a 11)) t i ∧ rg (I (a 11)) t i ≤ 799) (hc : 0 < c) : jC E yX7_isSign cX7_isSign 4 (some .boolean) d [jp m, ji t, ji i, ji c] I P (jD (some (ji (jb (sgC (I (a 13)) (I (a 11)) (I (a 6)) t i = c)))) I P) := by
  unfold rg at hb
  refine jC_intro (by decide +kernel) (by simp [jc, va_rf, Value.category]) (Nat.le_of_ble_eq_true rfl) ?_
  refine jJ_aload_n (pc := 0) dX7_isSign_0 rfl ?_
  refine jJ_getr (pc := 1) dX7_isSign_1 fX7_42 rfl hR.1 hR.p13 ?_
  refine jJ_sipush (pc := 4) dX7_isSign_4 (by decide) ?_
  refine jJ_iload_n (pc := 7) dX7_isSign_7 rfl ?_
  refine jJ_imul (pc := 8) dX7_isSign_8 ⟨by omega, by omega⟩ ?_
  refine jJ_iload_n (pc := 9) dX7_isSign_9 rfl ?_
  refine jJ_iadd (pc := 10) dX7_isSign_10 ⟨by omega, by omega⟩ ?_
  refine jJ_iald (pc := 11) dX7_isSign_11 hR.a13 ⟨by omega, by omega⟩ ?_
  refine jJ_iconst (pc := 12) dX7_isSign_12 (by decide) ?_
  refine jJ_icmp_ne (pc := 13) (tgt := 47) dX7_isSign_13 (by decide) (fun c13 => ?_) (fun c13 => ?_)
  · refine jJ_iconst (pc := 47) dX7_isSign_47 (by decide) ?_
    refine jJ_zret (pc := 48) dX7_isSign_48 rfl (by decide) ?_
    exact ⟨by simp only [sgC, rby, rg, *, if_true, if_false, jb]; try first | rfl | (rw [if_neg (by omega)]) | (rw [if_pos (by omega)]), rfl, rfl⟩
  · refine jJ_aload_n (pc := 16) dX7_isSign_16 rfl ?_
    refine jJ_getr (pc := 17) dX7_isSign_17 fX7_21 rfl hR.1 hR.p6 ?_
    refine jJ_sipush (pc := 20) dX7_isSign_20 (by decide) ?_
    refine jJ_iload_n (pc := 23) dX7_isSign_23 rfl ?_
    refine jJ_imul (pc := 24) dX7_isSign_24 ⟨by omega, by omega⟩ ?_
    refine jJ_aload_n (pc := 25) dX7_isSign_25 rfl ?_
    refine jJ_getr (pc := 26) dX7_isSign_26 fX7_36 rfl hR.1 hR.p11 ?_
    refine jJ_sipush (pc := 29) dX7_isSign_29 (by decide) ?_
    refine jJ_iload_n (pc := 32) dX7_isSign_32 rfl ?_
    refine jJ_imul (pc := 33) dX7_isSign_33 ⟨by omega, by omega⟩ ?_
    refine jJ_iload_n (pc := 34) dX7_isSign_34 rfl ?_
    refine jJ_iadd (pc := 35) dX7_isSign_35 ⟨by omega, by omega⟩ ?_
    refine jJ_iald (pc := 36) dX7_isSign_36 hR.a11 ⟨by omega, by omega⟩ ?_
    refine jJ_iadd (pc := 37) dX7_isSign_37 ⟨by omega, by omega⟩ ?_
    refine jJ_iald (pc := 38) dX7_isSign_38 hR.a6 ⟨by omega, by omega⟩ ?_
    refine jJ_iload_n (pc := 39) dX7_isSign_39 rfl ?_
    refine jJ_icmp_ne (pc := 40) (tgt := 47) dX7_isSign_40 (by decide) (fun c40 => ?_) (fun c40 => ?_)
    · refine jJ_iconst (pc := 47) dX7_isSign_47 (by decide) ?_
      refine jJ_zret (pc := 48) dX7_isSign_48 rfl (by decide) ?_
      exact ⟨by simp only [sgC, rby, rg, *, if_true, if_false, jb]; try first | rfl | (rw [if_neg (by omega)]) | (rw [if_pos (by omega)]), rfl, rfl⟩
    · refine jJ_iconst (pc := 43) dX7_isSign_43 (by decide) ?_
      refine jJ_goto (pc := 44) (tgt := 48) dX7_isSign_44 (by decide) ?_
      refine jJ_zret (pc := 48) dX7_isSign_48 rfl (by decide) ?_
      exact ⟨by simp only [sgC, rby, rg, *, if_true, if_false, jb]; try first | rfl | (rw [if_neg (by omega)]) | (rw [if_pos (by omega)]), rfl, rfl⟩
theorem r_isWork {t i : Int} (hR : RfL E P m a) (ht : 0 ≤ t ∧ t ≤ 12) (hi : 0 ≤ i ∧ i ≤ 200) (hb : 0 ≤ rg (I (a 11)) t i ∧ rg (I (a 11)) t i ≤ 799) (hd : 1 ≤ d) : jC E yX7_isWork cX7_isWork 3 (some .boolean) d [jp m, ji t, ji i] I P (jD (some (ji (jb (sgC (I (a 13)) (I (a 11)) (I (a 6)) t i = 43 ∨ sgC (I (a 13)) (I (a 11)) (I (a 6)) t i = 45 ∨ sgC (I (a 13)) (I (a 11)) (I (a 6)) t i = 60)))) I P) := by
  refine jC_intro (by decide +kernel) (by simp [jc, va_rf, Value.category]) (Nat.le_of_ble_eq_true rfl) ?_
  refine jJ_aload_n (pc := 0) dX7_isWork_0 rfl ?_
  refine jJ_iload_n (pc := 1) dX7_isWork_1 rfl ?_
  refine jJ_iload_n (pc := 2) dX7_isWork_2 rfl ?_
  refine jJ_bipush (pc := 3) dX7_isWork_3 (by decide) ?_
  refine jJ_callVd (pc := 5) (as := [_, _, _]) dX7_isWork_5 mX7_219 (jRcv_of hR.1 rfl rfl) (Nat.le_of_ble_eq_true rfl) (jRm_ok (by omega) (by decide)) (r_isSign (d := d - 1) hR ht hi hb (by decide)) ?_
  refine jJ_if_ne (pc := 8) (tgt := 33) dX7_isWork_8 (by decide) (fun c8 => ?_) (fun c8 => ?_)
  · try simp only [jb_z, jb_nz] at c8
    refine jJ_iconst (pc := 33) dX7_isWork_33 (by decide) ?_
    refine jJ_goto (pc := 34) (tgt := 38) dX7_isWork_34 (by decide) ?_
    refine jJ_zret (pc := 38) dX7_isWork_38 rfl (by decide) ?_
    exact ⟨by first | (exfalso; omega) | rw [← jb_t (by omega)] | rw [← jb_f (by omega)], rfl, rfl⟩
  · try simp only [jb_z, jb_nz] at c8
    refine jJ_aload_n (pc := 11) dX7_isWork_11 rfl ?_
    refine jJ_iload_n (pc := 12) dX7_isWork_12 rfl ?_
    refine jJ_iload_n (pc := 13) dX7_isWork_13 rfl ?_
    refine jJ_bipush (pc := 14) dX7_isWork_14 (by decide) ?_
    refine jJ_callVd (pc := 16) (as := [_, _, _]) dX7_isWork_16 mX7_219 (jRcv_of hR.1 rfl rfl) (Nat.le_of_ble_eq_true rfl) (jRm_ok (by omega) (by decide)) (r_isSign (d := d - 1) hR ht hi hb (by decide)) ?_
    refine jJ_if_ne (pc := 19) (tgt := 33) dX7_isWork_19 (by decide) (fun c19 => ?_) (fun c19 => ?_)
    · try simp only [jb_z, jb_nz] at c19
      refine jJ_iconst (pc := 33) dX7_isWork_33 (by decide) ?_
      refine jJ_goto (pc := 34) (tgt := 38) dX7_isWork_34 (by decide) ?_
      refine jJ_zret (pc := 38) dX7_isWork_38 rfl (by decide) ?_
      exact ⟨by first | (exfalso; omega) | rw [← jb_t (by omega)] | rw [← jb_f (by omega)], rfl, rfl⟩
    · try simp only [jb_z, jb_nz] at c19
      refine jJ_aload_n (pc := 22) dX7_isWork_22 rfl ?_
      refine jJ_iload_n (pc := 23) dX7_isWork_23 rfl ?_
      refine jJ_iload_n (pc := 24) dX7_isWork_24 rfl ?_
      refine jJ_bipush (pc := 25) dX7_isWork_25 (by decide) ?_
      refine jJ_callVd (pc := 27) (as := [_, _, _]) dX7_isWork_27 mX7_219 (jRcv_of hR.1 rfl rfl) (Nat.le_of_ble_eq_true rfl) (jRm_ok (by omega) (by decide)) (r_isSign (d := d - 1) hR ht hi hb (by decide)) ?_
      refine jJ_if_eq (pc := 30) (tgt := 37) dX7_isWork_30 (by decide) (fun c30 => ?_) (fun c30 => ?_)
      · try simp only [jb_z, jb_nz] at c30
        refine jJ_iconst (pc := 37) dX7_isWork_37 (by decide) ?_
        refine jJ_zret (pc := 38) dX7_isWork_38 rfl (by decide) ?_
        exact ⟨by first | (exfalso; omega) | rw [← jb_t (by omega)] | rw [← jb_f (by omega)], rfl, rfl⟩
      · try simp only [jb_z, jb_nz] at c30
        refine jJ_iconst (pc := 33) dX7_isWork_33 (by decide) ?_
        refine jJ_goto (pc := 34) (tgt := 38) dX7_isWork_34 (by decide) ?_
        refine jJ_zret (pc := 38) dX7_isWork_38 rfl (by decide) ?_
        exact ⟨by first | (exfalso; omega) | rw [← jb_t (by omega)] | rw [← jb_f (by omega)], rfl, rfl⟩
def rKd (g13 g11 g6 : Nat → Int) (t i : Int) : Int := kindB (sgC g13 g11 g6 t i) (sgC g13 g11 g6 t (i + 1))
theorem r_kindOf {t i : Int} (hR : RfL E P m a) (ht : 0 ≤ t ∧ t ≤ 12) (hi : 0 ≤ i ∧ i ≤ 199) (hb : 0 ≤ rg (I (a 11)) t i ∧ rg (I (a 11)) t i ≤ 799) (hb1 : 0 ≤ rg (I (a 11)) t (i + 1) ∧ rg (I (a 11)) t (i + 1) ≤ 799) (hd : 2 ≤ d) : jC E yX7_kindOf cX7_kindOf 3 (some .int) d [jp m, ji t, ji i] I P (jD (some (ji (rKd (I (a 13)) (I (a 11)) (I (a 6)) t i))) I P) := by
  refine jC_intro (by decide +kernel) (by simp [jc, va_rf, Value.category]) (Nat.le_of_ble_eq_true rfl) ?_
  refine jJ_aload_n (pc := 0) dX7_kindOf_0 rfl ?_
  refine jJ_iload_n (pc := 1) dX7_kindOf_1 rfl ?_
  refine jJ_iload_n (pc := 2) dX7_kindOf_2 rfl ?_
  refine jJ_iconst (pc := 3) dX7_kindOf_3 (by decide) ?_
  refine jJ_iadd (pc := 4) dX7_kindOf_4 ⟨by omega, by omega⟩ ?_
  refine jJ_bipush (pc := 5) dX7_kindOf_5 (by decide) ?_
  refine jJ_callVd (pc := 7) (as := [_, _, _]) dX7_kindOf_7 mX7_219 (jRcv_of hR.1 rfl rfl) (Nat.le_of_ble_eq_true rfl) (jRm_ok (by omega) (by decide)) (r_isSign (d := d - 1) hR ht (by omega) hb1 (by decide)) ?_
  refine jJ_if_eq (pc := 10) (tgt := 15) dX7_kindOf_10 (by decide) (fun c10 => ?_) (fun c10 => ?_)
  · try simp only [jb_z, jb_nz] at c10
    refine jJ_aload_n (pc := 15) dX7_kindOf_15 rfl ?_
    refine jJ_iload_n (pc := 16) dX7_kindOf_16 rfl ?_
    refine jJ_iload_n (pc := 17) dX7_kindOf_17 rfl ?_
    refine jJ_bipush (pc := 18) dX7_kindOf_18 (by decide) ?_
    refine jJ_callVd (pc := 20) (as := [_, _, _]) dX7_kindOf_20 mX7_219 (jRcv_of hR.1 rfl rfl) (Nat.le_of_ble_eq_true rfl) (jRm_ok (by omega) (by decide)) (r_isSign (d := d - 1) hR ht (by omega) hb (by decide)) ?_
    refine jJ_if_eq (pc := 23) (tgt := 28) dX7_kindOf_23 (by decide) (fun c23 => ?_) (fun c23 => ?_)
    · try simp only [jb_z, jb_nz] at c23
      refine jJ_aload_n (pc := 28) dX7_kindOf_28 rfl ?_
      refine jJ_iload_n (pc := 29) dX7_kindOf_29 rfl ?_
      refine jJ_iload_n (pc := 30) dX7_kindOf_30 rfl ?_
      refine jJ_bipush (pc := 31) dX7_kindOf_31 (by decide) ?_
      refine jJ_callVd (pc := 33) (as := [_, _, _]) dX7_kindOf_33 mX7_219 (jRcv_of hR.1 rfl rfl) (Nat.le_of_ble_eq_true rfl) (jRm_ok (by omega) (by decide)) (r_isSign (d := d - 1) hR ht (by omega) hb (by decide)) ?_
      refine jJ_if_eq (pc := 36) (tgt := 41) dX7_kindOf_36 (by decide) (fun c36 => ?_) (fun c36 => ?_)
      · try simp only [jb_z, jb_nz] at c36
        refine jJ_aload_n (pc := 41) dX7_kindOf_41 rfl ?_
        refine jJ_iload_n (pc := 42) dX7_kindOf_42 rfl ?_
        refine jJ_iload_n (pc := 43) dX7_kindOf_43 rfl ?_
        refine jJ_iconst (pc := 44) dX7_kindOf_44 (by decide) ?_
        refine jJ_iadd (pc := 45) dX7_kindOf_45 ⟨by omega, by omega⟩ ?_
        refine jJ_bipush (pc := 46) dX7_kindOf_46 (by decide) ?_
        refine jJ_callVd (pc := 48) (as := [_, _, _]) dX7_kindOf_48 mX7_219 (jRcv_of hR.1 rfl rfl) (Nat.le_of_ble_eq_true rfl) (jRm_ok (by omega) (by decide)) (r_isSign (d := d - 1) hR ht (by omega) hb1 (by decide)) ?_
        refine jJ_if_eq (pc := 51) (tgt := 56) dX7_kindOf_51 (by decide) (fun c51 => ?_) (fun c51 => ?_)
        · try simp only [jb_z, jb_nz] at c51
          refine jJ_aload_n (pc := 56) dX7_kindOf_56 rfl ?_
          refine jJ_iload_n (pc := 57) dX7_kindOf_57 rfl ?_
          refine jJ_iload_n (pc := 58) dX7_kindOf_58 rfl ?_
          refine jJ_bipush (pc := 59) dX7_kindOf_59 (by decide) ?_
          refine jJ_callVd (pc := 61) (as := [_, _, _]) dX7_kindOf_61 mX7_219 (jRcv_of hR.1 rfl rfl) (Nat.le_of_ble_eq_true rfl) (jRm_ok (by omega) (by decide)) (r_isSign (d := d - 1) hR ht (by omega) hb (by decide)) ?_
          refine jJ_if_eq (pc := 64) (tgt := 69) dX7_kindOf_64 (by decide) (fun c64 => ?_) (fun c64 => ?_)
          · try simp only [jb_z, jb_nz] at c64
            refine jJ_aload_n (pc := 69) dX7_kindOf_69 rfl ?_
            refine jJ_iload_n (pc := 70) dX7_kindOf_70 rfl ?_
            refine jJ_iload_n (pc := 71) dX7_kindOf_71 rfl ?_
            refine jJ_iconst (pc := 72) dX7_kindOf_72 (by decide) ?_
            refine jJ_iadd (pc := 73) dX7_kindOf_73 ⟨by omega, by omega⟩ ?_
            refine jJ_bipush (pc := 74) dX7_kindOf_74 (by decide) ?_
            refine jJ_callVd (pc := 76) (as := [_, _, _]) dX7_kindOf_76 mX7_219 (jRcv_of hR.1 rfl rfl) (Nat.le_of_ble_eq_true rfl) (jRm_ok (by omega) (by decide)) (r_isSign (d := d - 1) hR ht (by omega) hb1 (by decide)) ?_
            refine jJ_if_eq (pc := 79) (tgt := 84) dX7_kindOf_79 (by decide) (fun c79 => ?_) (fun c79 => ?_)
            · try simp only [jb_z, jb_nz] at c79
              refine jJ_aload_n (pc := 84) dX7_kindOf_84 rfl ?_
              refine jJ_iload_n (pc := 85) dX7_kindOf_85 rfl ?_
              refine jJ_iload_n (pc := 86) dX7_kindOf_86 rfl ?_
              refine jJ_iconst (pc := 87) dX7_kindOf_87 (by decide) ?_
              refine jJ_iadd (pc := 88) dX7_kindOf_88 ⟨by omega, by omega⟩ ?_
              refine jJ_bipush (pc := 89) dX7_kindOf_89 (by decide) ?_
              refine jJ_callVd (pc := 91) (as := [_, _, _]) dX7_kindOf_91 mX7_219 (jRcv_of hR.1 rfl rfl) (Nat.le_of_ble_eq_true rfl) (jRm_ok (by omega) (by decide)) (r_isSign (d := d - 1) hR ht (by omega) hb1 (by decide)) ?_
              refine jJ_if_eq (pc := 94) (tgt := 100) dX7_kindOf_94 (by decide) (fun c94 => ?_) (fun c94 => ?_)
              · try simp only [jb_z, jb_nz] at c94
                refine jJ_aload_n (pc := 100) dX7_kindOf_100 rfl ?_
                refine jJ_iload_n (pc := 101) dX7_kindOf_101 rfl ?_
                refine jJ_iload_n (pc := 102) dX7_kindOf_102 rfl ?_
                refine jJ_bipush (pc := 103) dX7_kindOf_103 (by decide) ?_
                refine jJ_callVd (pc := 105) (as := [_, _, _]) dX7_kindOf_105 mX7_219 (jRcv_of hR.1 rfl rfl) (Nat.le_of_ble_eq_true rfl) (jRm_ok (by omega) (by decide)) (r_isSign (d := d - 1) hR ht (by omega) hb (by decide)) ?_
                refine jJ_if_eq (pc := 108) (tgt := 114) dX7_kindOf_108 (by decide) (fun c108 => ?_) (fun c108 => ?_)
                · try simp only [jb_z, jb_nz] at c108
                  refine jJ_aload_n (pc := 114) dX7_kindOf_114 rfl ?_
                  refine jJ_iload_n (pc := 115) dX7_kindOf_115 rfl ?_
                  refine jJ_iload_n (pc := 116) dX7_kindOf_116 rfl ?_
                  refine jJ_bipush (pc := 117) dX7_kindOf_117 (by decide) ?_
                  refine jJ_callVd (pc := 119) (as := [_, _, _]) dX7_kindOf_119 mX7_219 (jRcv_of hR.1 rfl rfl) (Nat.le_of_ble_eq_true rfl) (jRm_ok (by omega) (by decide)) (r_isSign (d := d - 1) hR ht (by omega) hb (by decide)) ?_
                  refine jJ_if_eq (pc := 122) (tgt := 128) dX7_kindOf_122 (by decide) (fun c122 => ?_) (fun c122 => ?_)
                  · try simp only [jb_z, jb_nz] at c122
                    refine jJ_aload_n (pc := 128) dX7_kindOf_128 rfl ?_
                    refine jJ_iload_n (pc := 129) dX7_kindOf_129 rfl ?_
                    refine jJ_iload_n (pc := 130) dX7_kindOf_130 rfl ?_
                    refine jJ_iconst (pc := 131) dX7_kindOf_131 (by decide) ?_
                    refine jJ_iadd (pc := 132) dX7_kindOf_132 ⟨by omega, by omega⟩ ?_
                    refine jJ_bipush (pc := 133) dX7_kindOf_133 (by decide) ?_
                    refine jJ_callVd (pc := 135) (as := [_, _, _]) dX7_kindOf_135 mX7_219 (jRcv_of hR.1 rfl rfl) (Nat.le_of_ble_eq_true rfl) (jRm_ok (by omega) (by decide)) (r_isSign (d := d - 1) hR ht (by omega) hb1 (by decide)) ?_
                    refine jJ_if_eq (pc := 138) (tgt := 144) dX7_kindOf_138 (by decide) (fun c138 => ?_) (fun c138 => ?_)
                    · try simp only [jb_z, jb_nz] at c138
                      refine jJ_aload_n (pc := 144) dX7_kindOf_144 rfl ?_
                      refine jJ_iload_n (pc := 145) dX7_kindOf_145 rfl ?_
                      refine jJ_iload_n (pc := 146) dX7_kindOf_146 rfl ?_
                      refine jJ_iconst (pc := 147) dX7_kindOf_147 (by decide) ?_
                      refine jJ_iadd (pc := 148) dX7_kindOf_148 ⟨by omega, by omega⟩ ?_
                      refine jJ_bipush (pc := 149) dX7_kindOf_149 (by decide) ?_
                      refine jJ_callVd (pc := 151) (as := [_, _, _]) dX7_kindOf_151 mX7_219 (jRcv_of hR.1 rfl rfl) (Nat.le_of_ble_eq_true rfl) (jRm_ok (by omega) (by decide)) (r_isSign (d := d - 1) hR ht (by omega) hb1 (by decide)) ?_
                      refine jJ_if_eq (pc := 154) (tgt := 160) dX7_kindOf_154 (by decide) (fun c154 => ?_) (fun c154 => ?_)
                      · try simp only [jb_z, jb_nz] at c154
                        refine jJ_aload_n (pc := 160) dX7_kindOf_160 rfl ?_
                        refine jJ_iload_n (pc := 161) dX7_kindOf_161 rfl ?_
                        refine jJ_iload_n (pc := 162) dX7_kindOf_162 rfl ?_
                        refine jJ_iconst (pc := 163) dX7_kindOf_163 (by decide) ?_
                        refine jJ_iadd (pc := 164) dX7_kindOf_164 ⟨by omega, by omega⟩ ?_
                        refine jJ_bipush (pc := 165) dX7_kindOf_165 (by decide) ?_
                        refine jJ_callVd (pc := 167) (as := [_, _, _]) dX7_kindOf_167 mX7_219 (jRcv_of hR.1 rfl rfl) (Nat.le_of_ble_eq_true rfl) (jRm_ok (by omega) (by decide)) (r_isSign (d := d - 1) hR ht (by omega) hb1 (by decide)) ?_
                        refine jJ_if_eq (pc := 170) (tgt := 176) dX7_kindOf_170 (by decide) (fun c170 => ?_) (fun c170 => ?_)
                        · try simp only [jb_z, jb_nz] at c170
                          refine jJ_aload_n (pc := 176) dX7_kindOf_176 rfl ?_
                          refine jJ_iload_n (pc := 177) dX7_kindOf_177 rfl ?_
                          refine jJ_iload_n (pc := 178) dX7_kindOf_178 rfl ?_
                          refine jJ_bipush (pc := 179) dX7_kindOf_179 (by decide) ?_
                          refine jJ_callVd (pc := 181) (as := [_, _, _]) dX7_kindOf_181 mX7_219 (jRcv_of hR.1 rfl rfl) (Nat.le_of_ble_eq_true rfl) (jRm_ok (by omega) (by decide)) (r_isSign (d := d - 1) hR ht (by omega) hb (by decide)) ?_
                          refine jJ_if_eq (pc := 184) (tgt := 190) dX7_kindOf_184 (by decide) (fun c184 => ?_) (fun c184 => ?_)
                          · try simp only [jb_z, jb_nz] at c184
                            refine jJ_aload_n (pc := 190) dX7_kindOf_190 rfl ?_
                            refine jJ_iload_n (pc := 191) dX7_kindOf_191 rfl ?_
                            refine jJ_iload_n (pc := 192) dX7_kindOf_192 rfl ?_
                            refine jJ_iconst (pc := 193) dX7_kindOf_193 (by decide) ?_
                            refine jJ_iadd (pc := 194) dX7_kindOf_194 ⟨by omega, by omega⟩ ?_
                            refine jJ_callVd (pc := 195) (as := [_, _]) dX7_kindOf_195 mX7_223 (jRcv_of hR.1 rfl rfl) (Nat.le_of_ble_eq_true rfl) (jRm_ok (by omega) (by decide)) (r_isWork (d := d - 1) hR ht (by omega) hb1 (by omega)) ?_
                            refine jJ_if_eq (pc := 198) (tgt := 204) dX7_kindOf_198 (by decide) (fun c198 => ?_) (fun c198 => ?_)
                            · try simp only [jb_z, jb_nz] at c198
                              refine jJ_aload_n (pc := 204) dX7_kindOf_204 rfl ?_
                              refine jJ_iload_n (pc := 205) dX7_kindOf_205 rfl ?_
                              refine jJ_iload_n (pc := 206) dX7_kindOf_206 rfl ?_
                              refine jJ_callVd (pc := 207) (as := [_, _]) dX7_kindOf_207 mX7_223 (jRcv_of hR.1 rfl rfl) (Nat.le_of_ble_eq_true rfl) (jRm_ok (by omega) (by decide)) (r_isWork (d := d - 1) hR ht (by omega) hb (by omega)) ?_
                              refine jJ_if_eq (pc := 210) (tgt := 218) dX7_kindOf_210 (by decide) (fun c210 => ?_) (fun c210 => ?_)
                              · try simp only [jb_z, jb_nz] at c210
                                refine jJ_bipush (pc := 218) dX7_kindOf_218 (by decide) ?_
                                refine jJ_iret (pc := 220) dX7_kindOf_220 rfl ?_
                                exact ⟨by simp only [rKd, kindB, kindS, *, if_true, if_false]; try rfl, rfl, rfl⟩
                              · try simp only [jb_z, jb_nz] at c210
                                refine jJ_bipush (pc := 213) dX7_kindOf_213 (by decide) ?_
                                refine jJ_goto (pc := 215) (tgt := 220) dX7_kindOf_215 (by decide) ?_
                                refine jJ_iret (pc := 220) dX7_kindOf_220 rfl ?_
                                exact ⟨by simp only [rKd, kindB, kindS, *, if_true, if_false]; try rfl, rfl, rfl⟩
                            · try simp only [jb_z, jb_nz] at c198
                              refine jJ_bipush (pc := 201) dX7_kindOf_201 (by decide) ?_
                              refine jJ_iret (pc := 203) dX7_kindOf_203 rfl ?_
                              exact ⟨by simp only [rKd, kindB, kindS, *, if_true, if_false]; try rfl, rfl, rfl⟩
                          · try simp only [jb_z, jb_nz] at c184
                            refine jJ_bipush (pc := 187) dX7_kindOf_187 (by decide) ?_
                            refine jJ_iret (pc := 189) dX7_kindOf_189 rfl ?_
                            exact ⟨by simp only [rKd, kindB, kindS, *, if_true, if_false]; try rfl, rfl, rfl⟩
                        · try simp only [jb_z, jb_nz] at c170
                          refine jJ_bipush (pc := 173) dX7_kindOf_173 (by decide) ?_
                          refine jJ_iret (pc := 175) dX7_kindOf_175 rfl ?_
                          exact ⟨by simp only [rKd, kindB, kindS, *, if_true, if_false]; try rfl, rfl, rfl⟩
                      · try simp only [jb_z, jb_nz] at c154
                        refine jJ_bipush (pc := 157) dX7_kindOf_157 (by decide) ?_
                        refine jJ_iret (pc := 159) dX7_kindOf_159 rfl ?_
                        exact ⟨by simp only [rKd, kindB, kindS, *, if_true, if_false]; try rfl, rfl, rfl⟩
                    · try simp only [jb_z, jb_nz] at c138
                      refine jJ_bipush (pc := 141) dX7_kindOf_141 (by decide) ?_
                      refine jJ_iret (pc := 143) dX7_kindOf_143 rfl ?_
                      exact ⟨by simp only [rKd, kindB, kindS, *, if_true, if_false]; try rfl, rfl, rfl⟩
                  · try simp only [jb_z, jb_nz] at c122
                    refine jJ_bipush (pc := 125) dX7_kindOf_125 (by decide) ?_
                    refine jJ_iret (pc := 127) dX7_kindOf_127 rfl ?_
                    exact ⟨by simp only [rKd, kindB, kindS, *, if_true, if_false]; try rfl, rfl, rfl⟩
                · try simp only [jb_z, jb_nz] at c108
                  refine jJ_bipush (pc := 111) dX7_kindOf_111 (by decide) ?_
                  refine jJ_iret (pc := 113) dX7_kindOf_113 rfl ?_
                  exact ⟨by simp only [rKd, kindB, kindS, *, if_true, if_false]; try rfl, rfl, rfl⟩
              · try simp only [jb_z, jb_nz] at c94
                refine jJ_bipush (pc := 97) dX7_kindOf_97 (by decide) ?_
                refine jJ_iret (pc := 99) dX7_kindOf_99 rfl ?_
                exact ⟨by simp only [rKd, kindB, kindS, *, if_true, if_false]; try rfl, rfl, rfl⟩
            · try simp only [jb_z, jb_nz] at c79
              refine jJ_iconst (pc := 82) dX7_kindOf_82 (by decide) ?_
              refine jJ_iret (pc := 83) dX7_kindOf_83 rfl ?_
              exact ⟨by simp only [rKd, kindB, kindS, *, if_true, if_false]; try rfl, rfl, rfl⟩
          · try simp only [jb_z, jb_nz] at c64
            refine jJ_iconst (pc := 67) dX7_kindOf_67 (by decide) ?_
            refine jJ_iret (pc := 68) dX7_kindOf_68 rfl ?_
            exact ⟨by simp only [rKd, kindB, kindS, *, if_true, if_false]; try rfl, rfl, rfl⟩
        · try simp only [jb_z, jb_nz] at c51
          refine jJ_iconst (pc := 54) dX7_kindOf_54 (by decide) ?_
          refine jJ_iret (pc := 55) dX7_kindOf_55 rfl ?_
          exact ⟨by simp only [rKd, kindB, kindS, *, if_true, if_false]; try rfl, rfl, rfl⟩
      · try simp only [jb_z, jb_nz] at c36
        refine jJ_iconst (pc := 39) dX7_kindOf_39 (by decide) ?_
        refine jJ_iret (pc := 40) dX7_kindOf_40 rfl ?_
        exact ⟨by simp only [rKd, kindB, kindS, *, if_true, if_false]; try rfl, rfl, rfl⟩
    · try simp only [jb_z, jb_nz] at c23
      refine jJ_iconst (pc := 26) dX7_kindOf_26 (by decide) ?_
      refine jJ_iret (pc := 27) dX7_kindOf_27 rfl ?_
      exact ⟨by simp only [rKd, kindB, kindS, *, if_true, if_false]; try rfl, rfl, rfl⟩
  · try simp only [jb_z, jb_nz] at c10
    refine jJ_iconst (pc := 13) dX7_kindOf_13 (by decide) ?_
    refine jJ_iret (pc := 14) dX7_kindOf_14 rfl ?_
    exact ⟨by simp only [rKd, kindB, kindS, *, if_true, if_false]; try rfl, rfl, rfl⟩
def rCh (g11 g12 g14 g6 : Nat → Int) (t i : Int) : Int := chB (rby g6 t) (rg g11 t i + rg g12 t i) (rg g11 t (i + 1)) (rg g14 t (i + 1))
theorem rChoice_loop {t i fr n : Int} {z5 : Option jV} (hR : RfL E P m a) (ht : 0 ≤ t ∧ t ≤ 12) (hf : 0 ≤ fr ∧ fr + n ≤ 800) :
    ∀ (k : Nat) (p : Int), 0 ≤ p → p + k = n → jJ E yX7_choiceOf.cls cX7_choiceOf 8 (some .int) (jRm d) (jZ E (jD (some (ji (if allP (rby (I (a 6)) t) 32 (fr + p) k = true then 2 else 3))) I P)) 0 0 120 [some (jp m), some (ji t), some (ji i), some (ji fr), some (ji n), z5, some (ji 1), some (ji p)] [] I P := by
  intro k
  induction k with
  | zero =>
    intro p hp hk
    refine jJ_iload (pc := 120) dX7_choiceOf_120 rfl ?_
    refine jJ_iload (pc := 122) dX7_choiceOf_122 rfl ?_
    refine jJ_icmp_ge (pc := 124) (tgt := 165) dX7_choiceOf_124 (by decide) (fun c124 => ?_) (fun c124 => ?_)
    · refine jJ_iload (pc := 165) dX7_choiceOf_165 rfl ?_
      refine jJ_if_eq (pc := 167) (tgt := 174) dX7_choiceOf_167 (by decide) (fun c167 => ?_) (fun c167 => ?_)
      · exact absurd c167 (by decide)
      · refine jJ_iconst (pc := 170) dX7_choiceOf_170 (by decide) ?_
        refine jJ_goto (pc := 171) (tgt := 175) dX7_choiceOf_171 (by decide) ?_
        refine jJ_iret (pc := 175) dX7_choiceOf_175 rfl ?_
        exact ⟨rfl, rfl, rfl⟩
    · exfalso
      omega
  | succ k ih =>
    intro p hp hk
    refine jJ_iload (pc := 120) dX7_choiceOf_120 rfl ?_
    refine jJ_iload (pc := 122) dX7_choiceOf_122 rfl ?_
    refine jJ_icmp_ge (pc := 124) (tgt := 165) dX7_choiceOf_124 (by decide) (fun c124 => ?_) (fun c124 => ?_)
    · exfalso
      omega
    · refine jJ_iload (pc := 127) dX7_choiceOf_127 rfl ?_
      refine jJ_if_eq (pc := 129) (tgt := 165) dX7_choiceOf_129 (by decide) (fun c129 => ?_) (fun c129 => ?_)
      · exact absurd c129 (by decide)
      · refine jJ_aload_n (pc := 132) dX7_choiceOf_132 rfl ?_
        refine jJ_getr (pc := 133) dX7_choiceOf_133 fX7_21 rfl hR.1 hR.p6 ?_
        refine jJ_sipush (pc := 136) dX7_choiceOf_136 (by decide) ?_
        refine jJ_iload_n (pc := 139) dX7_choiceOf_139 rfl ?_
        refine jJ_imul (pc := 140) dX7_choiceOf_140 ⟨by omega, by omega⟩ ?_
        refine jJ_iload_n (pc := 141) dX7_choiceOf_141 rfl ?_
        refine jJ_iadd (pc := 142) dX7_choiceOf_142 ⟨by omega, by omega⟩ ?_
        refine jJ_iload (pc := 143) dX7_choiceOf_143 rfl ?_
        refine jJ_iadd (pc := 145) dX7_choiceOf_145 ⟨by omega, by omega⟩ ?_
        refine jJ_iald (pc := 146) dX7_choiceOf_146 hR.a6 ⟨by omega, by omega⟩ ?_
        rw [show I (a 6) (800 * t + fr + p).toNat = rby (I (a 6)) t (fr + p) by unfold rby; rw [Int.add_assoc]]
        refine jJ_bipush (pc := 147) dX7_choiceOf_147 (by decide) ?_
        refine jJ_icmp_ne (pc := 149) (tgt := 156) dX7_choiceOf_149 (by decide) (fun c149 => ?_) (fun c149 => ?_)
        · refine jJ_iconst (pc := 156) dX7_choiceOf_156 (by decide) ?_
          refine jJ_istore (pc := 157) (ls' := [_, _, _, _, _, _, _, _]) dX7_choiceOf_157 (Nat.le_of_ble_eq_true rfl) rfl ?_
          refine jJ_iinc (pc := 159) (ls' := [_, _, _, _, _, _, _, _]) dX7_choiceOf_159 rfl ⟨by omega, by omega⟩ rfl ?_
          refine jJ_goto (pc := 162) (tgt := 120) dX7_choiceOf_162 (by decide) ?_
          rw [allP_f c149]
          refine jJ_iload (pc := 120) dX7_choiceOf_120 rfl ?_
          refine jJ_iload (pc := 122) dX7_choiceOf_122 rfl ?_
          refine jJ_icmp_ge (pc := 124) (tgt := 165) dX7_choiceOf_124 (by decide) (fun c124 => ?_) (fun c124 => ?_)
          · refine jJ_iload (pc := 165) dX7_choiceOf_165 rfl ?_
            refine jJ_if_eq (pc := 167) (tgt := 174) dX7_choiceOf_167 (by decide) (fun c167 => ?_) (fun c167 => ?_)
            · refine jJ_iconst (pc := 174) dX7_choiceOf_174 (by decide) ?_
              refine jJ_iret (pc := 175) dX7_choiceOf_175 rfl ?_
              exact ⟨rfl, rfl, rfl⟩
            · exact absurd rfl c167
          · refine jJ_iload (pc := 127) dX7_choiceOf_127 rfl ?_
            refine jJ_if_eq (pc := 129) (tgt := 165) dX7_choiceOf_129 (by decide) (fun c129 => ?_) (fun c129 => ?_)
            · refine jJ_iload (pc := 165) dX7_choiceOf_165 rfl ?_
              refine jJ_if_eq (pc := 167) (tgt := 174) dX7_choiceOf_167 (by decide) (fun c167 => ?_) (fun c167 => ?_)
              · refine jJ_iconst (pc := 174) dX7_choiceOf_174 (by decide) ?_
                refine jJ_iret (pc := 175) dX7_choiceOf_175 rfl ?_
                exact ⟨rfl, rfl, rfl⟩
              · exact absurd rfl c167
            · exact absurd rfl c129
        · refine jJ_iconst (pc := 152) dX7_choiceOf_152 (by decide) ?_
          refine jJ_goto (pc := 153) (tgt := 157) dX7_choiceOf_153 (by decide) ?_
          refine jJ_istore (pc := 157) (ls' := [_, _, _, _, _, _, _, _]) dX7_choiceOf_157 (Nat.le_of_ble_eq_true rfl) rfl ?_
          refine jJ_iinc (pc := 159) (ls' := [_, _, _, _, _, _, _, _]) dX7_choiceOf_159 rfl ⟨by omega, by omega⟩ rfl ?_
          refine jJ_goto (pc := 162) (tgt := 120) dX7_choiceOf_162 (by decide) ?_
          rw [allP_t c149, Int.add_assoc]
          exact ih (p + 1) (by omega) (by omega)
theorem r_choiceOf {t i : Int} (hR : RfL E P m a) (ht : 0 ≤ t ∧ t ≤ 12) (hi : 0 ≤ i ∧ i ≤ 199) (hb : 0 ≤ rg (I (a 11)) t i ∧ 0 ≤ rg (I (a 12)) t i ∧ rg (I (a 11)) t i + rg (I (a 12)) t i ≤ rg (I (a 11)) t (i + 1) ∧ rg (I (a 11)) t (i + 1) ≤ 800) (hdp : 0 ≤ rg (I (a 14)) t (i + 1) ∧ rg (I (a 14)) t (i + 1) ≤ 1000) : jC E yX7_choiceOf cX7_choiceOf 8 (some .int) d [jp m, ji t, ji i] I P (jD (some (ji (rCh (I (a 11)) (I (a 12)) (I (a 14)) (I (a 6)) t i))) I P) := by
  have e1 : ∀ k : Nat, I (a k) (201 * t + i).toNat = rg (I (a k)) t i := fun k => rfl
  have e2 : ∀ k : Nat, I (a k) (201 * t + i + 1).toNat = rg (I (a k)) t (i + 1) := fun k => by unfold rg; rw [Int.add_assoc]
  have e3 : ∀ p : Int, I (a 6) (800 * t + p).toNat = rby (I (a 6)) t p := fun p => rfl
  refine jC_intro (by decide +kernel) (by simp [jc, va_rf, Value.category]) (Nat.le_of_ble_eq_true rfl) ?_
  refine jJ_aload_n (pc := 0) dX7_choiceOf_0 rfl ?_
  refine jJ_getr (pc := 1) dX7_choiceOf_1 fX7_36 rfl hR.1 hR.p11 ?_
  refine jJ_sipush (pc := 4) dX7_choiceOf_4 (by decide) ?_
  refine jJ_iload_n (pc := 7) dX7_choiceOf_7 rfl ?_
  refine jJ_imul (pc := 8) dX7_choiceOf_8 ⟨by omega, by omega⟩ ?_
  refine jJ_iload_n (pc := 9) dX7_choiceOf_9 rfl ?_
  refine jJ_iadd (pc := 10) dX7_choiceOf_10 ⟨by omega, by omega⟩ ?_
  refine jJ_iald (pc := 11) dX7_choiceOf_11 hR.a11 ⟨by omega, by omega⟩ ?_
  rw [e1]
  refine jJ_aload_n (pc := 12) dX7_choiceOf_12 rfl ?_
  refine jJ_getr (pc := 13) dX7_choiceOf_13 fX7_39 rfl hR.1 hR.p12 ?_
  refine jJ_sipush (pc := 16) dX7_choiceOf_16 (by decide) ?_
  refine jJ_iload_n (pc := 19) dX7_choiceOf_19 rfl ?_
  refine jJ_imul (pc := 20) dX7_choiceOf_20 ⟨by omega, by omega⟩ ?_
  refine jJ_iload_n (pc := 21) dX7_choiceOf_21 rfl ?_
  refine jJ_iadd (pc := 22) dX7_choiceOf_22 ⟨by omega, by omega⟩ ?_
  refine jJ_iald (pc := 23) dX7_choiceOf_23 hR.a12 ⟨by omega, by omega⟩ ?_
  rw [e1]
  refine jJ_iadd (pc := 24) dX7_choiceOf_24 ⟨by omega, by omega⟩ ?_
  refine jJ_istore_n (pc := 25) (ls' := [_, _, _, _, _, _, _, _]) dX7_choiceOf_25 (Nat.le_of_ble_eq_true rfl) rfl ?_
  refine jJ_aload_n (pc := 26) dX7_choiceOf_26 rfl ?_
  refine jJ_getr (pc := 27) dX7_choiceOf_27 fX7_36 rfl hR.1 hR.p11 ?_
  refine jJ_sipush (pc := 30) dX7_choiceOf_30 (by decide) ?_
  refine jJ_iload_n (pc := 33) dX7_choiceOf_33 rfl ?_
  refine jJ_imul (pc := 34) dX7_choiceOf_34 ⟨by omega, by omega⟩ ?_
  refine jJ_iload_n (pc := 35) dX7_choiceOf_35 rfl ?_
  refine jJ_iadd (pc := 36) dX7_choiceOf_36 ⟨by omega, by omega⟩ ?_
  refine jJ_iconst (pc := 37) dX7_choiceOf_37 (by decide) ?_
  refine jJ_iadd (pc := 38) dX7_choiceOf_38 ⟨by omega, by omega⟩ ?_
  refine jJ_iald (pc := 39) dX7_choiceOf_39 hR.a11 ⟨by omega, by omega⟩ ?_
  rw [e2]
  refine jJ_iload_n (pc := 40) dX7_choiceOf_40 rfl ?_
  refine jJ_isub (pc := 41) dX7_choiceOf_41 ⟨by omega, by omega⟩ ?_
  refine jJ_istore (pc := 42) (ls' := [_, _, _, _, _, _, _, _]) dX7_choiceOf_42 (Nat.le_of_ble_eq_true rfl) rfl ?_
  refine jJ_iload (pc := 44) dX7_choiceOf_44 rfl ?_
  refine jJ_if_ne (pc := 46) (tgt := 51) dX7_choiceOf_46 (by decide) (fun c46 => ?_) (fun c46 => ?_)
  · refine jJ_aload_n (pc := 51) dX7_choiceOf_51 rfl ?_
    refine jJ_getr (pc := 52) dX7_choiceOf_52 fX7_21 rfl hR.1 hR.p6 ?_
    refine jJ_sipush (pc := 55) dX7_choiceOf_55 (by decide) ?_
    refine jJ_iload_n (pc := 58) dX7_choiceOf_58 rfl ?_
    refine jJ_imul (pc := 59) dX7_choiceOf_59 ⟨by omega, by omega⟩ ?_
    refine jJ_iload_n (pc := 60) dX7_choiceOf_60 rfl ?_
    refine jJ_iadd (pc := 61) dX7_choiceOf_61 ⟨by omega, by omega⟩ ?_
    refine jJ_iald (pc := 62) dX7_choiceOf_62 hR.a6 ⟨by omega, by omega⟩ ?_
    rw [e3]
    have fin : ∀ b : Int, (b = 0 ∨ b = 1) → (b = 0 → rCh (I (a 11)) (I (a 12)) (I (a 14)) (I (a 6)) t i = 3) → (b = 1 → rCh (I (a 11)) (I (a 12)) (I (a 14)) (I (a 6)) t i = if allP (rby (I (a 6)) t) 32 (rg (I (a 11)) t i + rg (I (a 12)) t i + 1) (rg (I (a 11)) t (i + 1) - (rg (I (a 11)) t i + rg (I (a 12)) t i + 1)).toNat = true then 2 else 3) → jJ E yX7_choiceOf.cls cX7_choiceOf 8 (some .int) (jRm d) (jZ E (jD (some (ji (rCh (I (a 11)) (I (a 12)) (I (a 14)) (I (a 6)) t i))) I P)) 0 0 115 [some (jp m), some (ji t), some (ji i), some (ji (rg (I (a 11)) t i + rg (I (a 12)) t i)), some (ji (rg (I (a 11)) t (i + 1) - (rg (I (a 11)) t i + rg (I (a 12)) t i))), some (ji (rby (I (a 6)) t (rg (I (a 11)) t i + rg (I (a 12)) t i))), none, none] [ji b] I P := by
      intro b hb1 hb2 hb3
      refine jJ_istore (pc := 115) (ls' := [_, _, _, _, _, _, _, _]) dX7_choiceOf_115 (Nat.le_of_ble_eq_true rfl) rfl ?_
      refine jJ_iconst (pc := 117) dX7_choiceOf_117 (by decide) ?_
      refine jJ_istore (pc := 118) (ls' := [_, _, _, _, _, _, _, _]) dX7_choiceOf_118 (Nat.le_of_ble_eq_true rfl) rfl ?_
      rcases hb1 with rfl | rfl
      · rw [hb2 rfl]
        refine jJ_iload (pc := 120) dX7_choiceOf_120 rfl ?_
        refine jJ_iload (pc := 122) dX7_choiceOf_122 rfl ?_
        refine jJ_icmp_ge (pc := 124) (tgt := 165) dX7_choiceOf_124 (by decide) (fun c124 => ?_) (fun c124 => ?_)
        · refine jJ_iload (pc := 165) dX7_choiceOf_165 rfl ?_
          refine jJ_if_eq (pc := 167) (tgt := 174) dX7_choiceOf_167 (by decide) (fun c167 => ?_) (fun c167 => ?_)
          · refine jJ_iconst (pc := 174) dX7_choiceOf_174 (by decide) ?_
            refine jJ_iret (pc := 175) dX7_choiceOf_175 rfl ?_
            exact ⟨rfl, rfl, rfl⟩
          · exact absurd rfl c167
        · refine jJ_iload (pc := 127) dX7_choiceOf_127 rfl ?_
          refine jJ_if_eq (pc := 129) (tgt := 165) dX7_choiceOf_129 (by decide) (fun c129 => ?_) (fun c129 => ?_)
          · refine jJ_iload (pc := 165) dX7_choiceOf_165 rfl ?_
            refine jJ_if_eq (pc := 167) (tgt := 174) dX7_choiceOf_167 (by decide) (fun c167 => ?_) (fun c167 => ?_)
            · refine jJ_iconst (pc := 174) dX7_choiceOf_174 (by decide) ?_
              refine jJ_iret (pc := 175) dX7_choiceOf_175 rfl ?_
              exact ⟨rfl, rfl, rfl⟩
            · exact absurd rfl c167
          · exact absurd rfl c129
      · rw [hb3 rfl]
        have k := rChoice_loop (I := I) (P := P) (d := d) (z5 := some (ji (rby (I (a 6)) t (rg (I (a 11)) t i + rg (I (a 12)) t i)))) (t := t) (i := i) (fr := rg (I (a 11)) t i + rg (I (a 12)) t i) (n := rg (I (a 11)) t (i + 1) - (rg (I (a 11)) t i + rg (I (a 12)) t i)) hR ht (by omega) (rg (I (a 11)) t (i + 1) - (rg (I (a 11)) t i + rg (I (a 12)) t i + 1)).toNat 1 (by decide) (by omega)
        exact k
    refine jJ_istore (pc := 63) (ls' := [_, _, _, _, _, _, _, _]) dX7_choiceOf_63 (Nat.le_of_ble_eq_true rfl) rfl ?_
    refine jJ_iload (pc := 65) dX7_choiceOf_65 rfl ?_
    refine jJ_iconst (pc := 67) dX7_choiceOf_67 (by decide) ?_
    refine jJ_icmp_ne (pc := 68) (tgt := 80) dX7_choiceOf_68 (by decide) (fun c68 => ?_) (fun c68 => ?_)
    · refine jJ_iload (pc := 80) dX7_choiceOf_80 rfl ?_
      refine jJ_bipush (pc := 82) dX7_choiceOf_82 (by decide) ?_
      refine jJ_icmp_ne (pc := 84) (tgt := 114) dX7_choiceOf_84 (by decide) (fun c84 => ?_) (fun c84 => ?_)
      · refine jJ_iconst (pc := 114) dX7_choiceOf_114 (by decide) ?_
        exact fin 0 (Or.inl rfl) (fun _ => by rw [rCh, chB, if_neg c46, if_neg (fun z => c68 z.1), if_pos (Or.inr c84)]) (fun z => absurd z (by decide))
      · refine jJ_iload (pc := 87) dX7_choiceOf_87 rfl ?_
        refine jJ_iconst (pc := 89) dX7_choiceOf_89 (by decide) ?_
        refine jJ_iconst (pc := 90) dX7_choiceOf_90 (by decide) ?_
        refine jJ_aload_n (pc := 91) dX7_choiceOf_91 rfl ?_
        refine jJ_getr (pc := 92) dX7_choiceOf_92 fX7_45 rfl hR.1 hR.p14 ?_
        refine jJ_sipush (pc := 95) dX7_choiceOf_95 (by decide) ?_
        refine jJ_iload_n (pc := 98) dX7_choiceOf_98 rfl ?_
        refine jJ_imul (pc := 99) dX7_choiceOf_99 ⟨by omega, by omega⟩ ?_
        refine jJ_iload_n (pc := 100) dX7_choiceOf_100 rfl ?_
        refine jJ_iadd (pc := 101) dX7_choiceOf_101 ⟨by omega, by omega⟩ ?_
        refine jJ_iconst (pc := 102) dX7_choiceOf_102 (by decide) ?_
        refine jJ_iadd (pc := 103) dX7_choiceOf_103 ⟨by omega, by omega⟩ ?_
        refine jJ_iald (pc := 104) dX7_choiceOf_104 hR.a14 ⟨by omega, by omega⟩ ?_
        rw [e2]
        refine jJ_imul (pc := 105) dX7_choiceOf_105 ⟨by omega, by omega⟩ ?_
        refine jJ_iadd (pc := 106) dX7_choiceOf_106 ⟨by omega, by omega⟩ ?_
        refine jJ_icmp_ne (pc := 107) (tgt := 114) dX7_choiceOf_107 (by decide) (fun c107 => ?_) (fun c107 => ?_)
        · refine jJ_iconst (pc := 114) dX7_choiceOf_114 (by decide) ?_
          exact fin 0 (Or.inl rfl) (fun _ => by rw [rCh, chB, if_neg c46, if_neg (fun z => c68 z.1), if_pos (Or.inl c107)]) (fun z => absurd z (by decide))
        · refine jJ_iconst (pc := 110) dX7_choiceOf_110 (by decide) ?_
          refine jJ_goto (pc := 111) (tgt := 115) dX7_choiceOf_111 (by decide) ?_
          exact fin 1 (Or.inr rfl) (fun z => absurd z (by decide)) (fun _ => by rw [rCh, chB, if_neg c46, if_neg (fun z => c68 z.1), if_neg (by omega)])
    · refine jJ_iload (pc := 71) dX7_choiceOf_71 rfl ?_
      refine jJ_bipush (pc := 73) dX7_choiceOf_73 (by decide) ?_
      refine jJ_icmp_ne (pc := 75) (tgt := 80) dX7_choiceOf_75 (by decide) (fun c75 => ?_) (fun c75 => ?_)
      · refine jJ_iload (pc := 80) dX7_choiceOf_80 rfl ?_
        refine jJ_bipush (pc := 82) dX7_choiceOf_82 (by decide) ?_
        refine jJ_icmp_ne (pc := 84) (tgt := 114) dX7_choiceOf_84 (by decide) (fun c84 => ?_) (fun c84 => ?_)
        · refine jJ_iconst (pc := 114) dX7_choiceOf_114 (by decide) ?_
          exact fin 0 (Or.inl rfl) (fun _ => by rw [rCh, chB, if_neg c46, if_neg (fun z => c75 z.2), if_pos (Or.inr c84)]) (fun z => absurd z (by decide))
        · refine jJ_iload (pc := 87) dX7_choiceOf_87 rfl ?_
          refine jJ_iconst (pc := 89) dX7_choiceOf_89 (by decide) ?_
          refine jJ_iconst (pc := 90) dX7_choiceOf_90 (by decide) ?_
          refine jJ_aload_n (pc := 91) dX7_choiceOf_91 rfl ?_
          refine jJ_getr (pc := 92) dX7_choiceOf_92 fX7_45 rfl hR.1 hR.p14 ?_
          refine jJ_sipush (pc := 95) dX7_choiceOf_95 (by decide) ?_
          refine jJ_iload_n (pc := 98) dX7_choiceOf_98 rfl ?_
          refine jJ_imul (pc := 99) dX7_choiceOf_99 ⟨by omega, by omega⟩ ?_
          refine jJ_iload_n (pc := 100) dX7_choiceOf_100 rfl ?_
          refine jJ_iadd (pc := 101) dX7_choiceOf_101 ⟨by omega, by omega⟩ ?_
          refine jJ_iconst (pc := 102) dX7_choiceOf_102 (by decide) ?_
          refine jJ_iadd (pc := 103) dX7_choiceOf_103 ⟨by omega, by omega⟩ ?_
          refine jJ_iald (pc := 104) dX7_choiceOf_104 hR.a14 ⟨by omega, by omega⟩ ?_
          rw [e2]
          refine jJ_imul (pc := 105) dX7_choiceOf_105 ⟨by omega, by omega⟩ ?_
          refine jJ_iadd (pc := 106) dX7_choiceOf_106 ⟨by omega, by omega⟩ ?_
          refine jJ_icmp_ne (pc := 107) (tgt := 114) dX7_choiceOf_107 (by decide) (fun c107 => ?_) (fun c107 => ?_)
          · refine jJ_iconst (pc := 114) dX7_choiceOf_114 (by decide) ?_
            exact fin 0 (Or.inl rfl) (fun _ => by rw [rCh, chB, if_neg c46, if_neg (fun z => c75 z.2), if_pos (Or.inl c107)]) (fun z => absurd z (by decide))
          · refine jJ_iconst (pc := 110) dX7_choiceOf_110 (by decide) ?_
            refine jJ_goto (pc := 111) (tgt := 115) dX7_choiceOf_111 (by decide) ?_
            exact fin 1 (Or.inr rfl) (fun z => absurd z (by decide)) (fun _ => by rw [rCh, chB, if_neg c46, if_neg (fun z => c75 z.2), if_neg (by omega)])
      · refine jJ_iconst (pc := 78) dX7_choiceOf_78 (by decide) ?_
        refine jJ_iret (pc := 79) dX7_choiceOf_79 rfl ?_
        exact ⟨by rw [rCh, chB, if_neg c46, if_pos ⟨c68, c75⟩], rfl, rfl⟩
  · refine jJ_iconst (pc := 49) dX7_choiceOf_49 (by decide) ?_
    refine jJ_iret (pc := 50) dX7_choiceOf_50 rfl ?_
    exact ⟨by rw [rCh, chB, if_pos c46], rfl, rfl⟩
def rTv (dp ow hand : Int) : Int := jOr (jOr (if dp = 0 then 1 else if 2 ≤ dp then 2 else 0) (jShl 4 ow)) (jShl 64 hand)
def rTs (g14 g15 g8 : Nat → Int) (t i : Int) : Int := rTv (rg g14 t (i + 1)) (rg g15 t i) (g8 t.toNat)
theorem r_testsOf {t i : Int} (hR : RfL E P m a) (ht : 0 ≤ t ∧ t ≤ 12) (hi : 0 ≤ i ∧ i ≤ 199) : jC E yX7_testsOf cX7_testsOf 5 (some .int) d [jp m, ji t, ji i] I P (jD (some (ji (rTs (I (a 14)) (I (a 15)) (I (a 8)) t i))) I P) := by
  have e2 : ∀ k : Nat, I (a k) (201 * t + i + 1).toNat = rg (I (a k)) t (i + 1) := fun k => by unfold rg; rw [Int.add_assoc]
  refine jC_intro (by decide +kernel) (by simp [jc, va_rf, Value.category]) (Nat.le_of_ble_eq_true rfl) ?_
  refine jJ_aload_n (pc := 0) dX7_testsOf_0 rfl ?_
  refine jJ_getr (pc := 1) dX7_testsOf_1 fX7_45 rfl hR.1 hR.p14 ?_
  refine jJ_sipush (pc := 4) dX7_testsOf_4 (by decide) ?_
  refine jJ_iload_n (pc := 7) dX7_testsOf_7 rfl ?_
  refine jJ_imul (pc := 8) dX7_testsOf_8 ⟨by omega, by omega⟩ ?_
  refine jJ_iload_n (pc := 9) dX7_testsOf_9 rfl ?_
  refine jJ_iadd (pc := 10) dX7_testsOf_10 ⟨by omega, by omega⟩ ?_
  refine jJ_iconst (pc := 11) dX7_testsOf_11 (by decide) ?_
  refine jJ_iadd (pc := 12) dX7_testsOf_12 ⟨by omega, by omega⟩ ?_
  refine jJ_iald (pc := 13) dX7_testsOf_13 hR.a14 ⟨by omega, by omega⟩ ?_
  rw [e2]
  refine jJ_istore_n (pc := 14) (ls' := [_, _, _, _, _]) dX7_testsOf_14 (Nat.le_of_ble_eq_true rfl) rfl ?_
  refine jJ_iload_n (pc := 15) dX7_testsOf_15 rfl ?_
  refine jJ_if_ne (pc := 16) (tgt := 23) dX7_testsOf_16 (by decide) (fun c16 => ?_) (fun c16 => ?_)
  · refine jJ_iload_n (pc := 23) dX7_testsOf_23 rfl ?_
    refine jJ_iconst (pc := 24) dX7_testsOf_24 (by decide) ?_
    refine jJ_icmp_lt (pc := 25) (tgt := 32) dX7_testsOf_25 (by decide) (fun c25 => ?_) (fun c25 => ?_)
    · refine jJ_iconst (pc := 32) dX7_testsOf_32 (by decide) ?_
      refine jJ_istore (pc := 33) (ls' := [_, _, _, _, _]) dX7_testsOf_33 (Nat.le_of_ble_eq_true rfl) rfl ?_
      refine jJ_iload (pc := 35) dX7_testsOf_35 rfl ?_
      refine jJ_iconst (pc := 37) dX7_testsOf_37 (by decide) ?_
      refine jJ_aload_n (pc := 38) dX7_testsOf_38 rfl ?_
      refine jJ_getr (pc := 39) dX7_testsOf_39 fX7_48 rfl hR.1 hR.p15 ?_
      refine jJ_sipush (pc := 42) dX7_testsOf_42 (by decide) ?_
      refine jJ_iload_n (pc := 45) dX7_testsOf_45 rfl ?_
      refine jJ_imul (pc := 46) dX7_testsOf_46 ⟨by omega, by omega⟩ ?_
      refine jJ_iload_n (pc := 47) dX7_testsOf_47 rfl ?_
      refine jJ_iadd (pc := 48) dX7_testsOf_48 ⟨by omega, by omega⟩ ?_
      refine jJ_iald (pc := 49) dX7_testsOf_49 hR.a15 ⟨by omega, by omega⟩ ?_
      refine jJ_ishl (pc := 50) dX7_testsOf_50 ?_
      refine jJ_ior (pc := 51) dX7_testsOf_51 ?_
      refine jJ_bipush (pc := 52) dX7_testsOf_52 (by decide) ?_
      refine jJ_aload_n (pc := 54) dX7_testsOf_54 rfl ?_
      refine jJ_getr (pc := 55) dX7_testsOf_55 fX7_27 rfl hR.1 hR.p8 ?_
      refine jJ_iload_n (pc := 58) dX7_testsOf_58 rfl ?_
      refine jJ_iald (pc := 59) dX7_testsOf_59 hR.a8 ⟨by omega, by omega⟩ ?_
      refine jJ_ishl (pc := 60) dX7_testsOf_60 ?_
      refine jJ_ior (pc := 61) dX7_testsOf_61 ?_
      refine jJ_iret (pc := 62) dX7_testsOf_62 rfl ?_
      exact ⟨by rw [rTs, rTv]; (repeat' split) <;> first | rfl | (exfalso; omega), rfl, rfl⟩
    · refine jJ_iconst (pc := 28) dX7_testsOf_28 (by decide) ?_
      refine jJ_goto (pc := 29) (tgt := 33) dX7_testsOf_29 (by decide) ?_
      refine jJ_istore (pc := 33) (ls' := [_, _, _, _, _]) dX7_testsOf_33 (Nat.le_of_ble_eq_true rfl) rfl ?_
      refine jJ_iload (pc := 35) dX7_testsOf_35 rfl ?_
      refine jJ_iconst (pc := 37) dX7_testsOf_37 (by decide) ?_
      refine jJ_aload_n (pc := 38) dX7_testsOf_38 rfl ?_
      refine jJ_getr (pc := 39) dX7_testsOf_39 fX7_48 rfl hR.1 hR.p15 ?_
      refine jJ_sipush (pc := 42) dX7_testsOf_42 (by decide) ?_
      refine jJ_iload_n (pc := 45) dX7_testsOf_45 rfl ?_
      refine jJ_imul (pc := 46) dX7_testsOf_46 ⟨by omega, by omega⟩ ?_
      refine jJ_iload_n (pc := 47) dX7_testsOf_47 rfl ?_
      refine jJ_iadd (pc := 48) dX7_testsOf_48 ⟨by omega, by omega⟩ ?_
      refine jJ_iald (pc := 49) dX7_testsOf_49 hR.a15 ⟨by omega, by omega⟩ ?_
      refine jJ_ishl (pc := 50) dX7_testsOf_50 ?_
      refine jJ_ior (pc := 51) dX7_testsOf_51 ?_
      refine jJ_bipush (pc := 52) dX7_testsOf_52 (by decide) ?_
      refine jJ_aload_n (pc := 54) dX7_testsOf_54 rfl ?_
      refine jJ_getr (pc := 55) dX7_testsOf_55 fX7_27 rfl hR.1 hR.p8 ?_
      refine jJ_iload_n (pc := 58) dX7_testsOf_58 rfl ?_
      refine jJ_iald (pc := 59) dX7_testsOf_59 hR.a8 ⟨by omega, by omega⟩ ?_
      refine jJ_ishl (pc := 60) dX7_testsOf_60 ?_
      refine jJ_ior (pc := 61) dX7_testsOf_61 ?_
      refine jJ_iret (pc := 62) dX7_testsOf_62 rfl ?_
      exact ⟨by rw [rTs, rTv]; (repeat' split) <;> first | rfl | (exfalso; omega), rfl, rfl⟩
  · refine jJ_iconst (pc := 19) dX7_testsOf_19 (by decide) ?_
    refine jJ_goto (pc := 20) (tgt := 33) dX7_testsOf_20 (by decide) ?_
    refine jJ_istore (pc := 33) (ls' := [_, _, _, _, _]) dX7_testsOf_33 (Nat.le_of_ble_eq_true rfl) rfl ?_
    refine jJ_iload (pc := 35) dX7_testsOf_35 rfl ?_
    refine jJ_iconst (pc := 37) dX7_testsOf_37 (by decide) ?_
    refine jJ_aload_n (pc := 38) dX7_testsOf_38 rfl ?_
    refine jJ_getr (pc := 39) dX7_testsOf_39 fX7_48 rfl hR.1 hR.p15 ?_
    refine jJ_sipush (pc := 42) dX7_testsOf_42 (by decide) ?_
    refine jJ_iload_n (pc := 45) dX7_testsOf_45 rfl ?_
    refine jJ_imul (pc := 46) dX7_testsOf_46 ⟨by omega, by omega⟩ ?_
    refine jJ_iload_n (pc := 47) dX7_testsOf_47 rfl ?_
    refine jJ_iadd (pc := 48) dX7_testsOf_48 ⟨by omega, by omega⟩ ?_
    refine jJ_iald (pc := 49) dX7_testsOf_49 hR.a15 ⟨by omega, by omega⟩ ?_
    refine jJ_ishl (pc := 50) dX7_testsOf_50 ?_
    refine jJ_ior (pc := 51) dX7_testsOf_51 ?_
    refine jJ_bipush (pc := 52) dX7_testsOf_52 (by decide) ?_
    refine jJ_aload_n (pc := 54) dX7_testsOf_54 rfl ?_
    refine jJ_getr (pc := 55) dX7_testsOf_55 fX7_27 rfl hR.1 hR.p8 ?_
    refine jJ_iload_n (pc := 58) dX7_testsOf_58 rfl ?_
    refine jJ_iald (pc := 59) dX7_testsOf_59 hR.a8 ⟨by omega, by omega⟩ ?_
    refine jJ_ishl (pc := 60) dX7_testsOf_60 ?_
    refine jJ_ior (pc := 61) dX7_testsOf_61 ?_
    refine jJ_iret (pc := 62) dX7_testsOf_62 rfl ?_
    exact ⟨by rw [rTs, rTv]; (repeat' split) <;> first | rfl | (exfalso; omega), rfl, rfl⟩
theorem r_isPair {t i : Int} (hR : RfL E P m a) (ht : 0 ≤ t ∧ t ≤ 12) (hi : 0 ≤ i ∧ i ≤ 199) : jC E yX7_isPair cX7_isPair 3 (some .boolean) d [jp m, ji t, ji i] I P (jD (some (ji (jb (rg (I (a 13)) t i ≠ 2 ∧ rg (I (a 13)) t (i + 1) ≠ 2)))) I P) := by
  have e2 : ∀ k : Nat, I (a k) (201 * t + i + 1).toNat = rg (I (a k)) t (i + 1) := fun k => by unfold rg; rw [Int.add_assoc]
  have e1 : ∀ k : Nat, I (a k) (201 * t + i).toNat = rg (I (a k)) t i := fun k => rfl
  refine jC_intro (by decide +kernel) (by simp [jc, va_rf, Value.category]) (Nat.le_of_ble_eq_true rfl) ?_
  refine jJ_aload_n (pc := 0) dX7_isPair_0 rfl ?_
  refine jJ_getr (pc := 1) dX7_isPair_1 fX7_42 rfl hR.1 hR.p13 ?_
  refine jJ_sipush (pc := 4) dX7_isPair_4 (by decide) ?_
  refine jJ_iload_n (pc := 7) dX7_isPair_7 rfl ?_
  refine jJ_imul (pc := 8) dX7_isPair_8 ⟨by omega, by omega⟩ ?_
  refine jJ_iload_n (pc := 9) dX7_isPair_9 rfl ?_
  refine jJ_iadd (pc := 10) dX7_isPair_10 ⟨by omega, by omega⟩ ?_
  refine jJ_iald (pc := 11) dX7_isPair_11 hR.a13 ⟨by omega, by omega⟩ ?_
  rw [e1]
  refine jJ_iconst (pc := 12) dX7_isPair_12 (by decide) ?_
  refine jJ_icmp_eq (pc := 13) (tgt := 38) dX7_isPair_13 (by decide) (fun c13 => ?_) (fun c13 => ?_)
  · refine jJ_iconst (pc := 38) dX7_isPair_38 (by decide) ?_
    refine jJ_zret (pc := 39) dX7_isPair_39 rfl (by decide) ?_
    exact ⟨by first | (exfalso; omega) | rw [← jb_t (by omega)] | rw [← jb_f (by omega)], rfl, rfl⟩
  · refine jJ_aload_n (pc := 16) dX7_isPair_16 rfl ?_
    refine jJ_getr (pc := 17) dX7_isPair_17 fX7_42 rfl hR.1 hR.p13 ?_
    refine jJ_sipush (pc := 20) dX7_isPair_20 (by decide) ?_
    refine jJ_iload_n (pc := 23) dX7_isPair_23 rfl ?_
    refine jJ_imul (pc := 24) dX7_isPair_24 ⟨by omega, by omega⟩ ?_
    refine jJ_iload_n (pc := 25) dX7_isPair_25 rfl ?_
    refine jJ_iadd (pc := 26) dX7_isPair_26 ⟨by omega, by omega⟩ ?_
    refine jJ_iconst (pc := 27) dX7_isPair_27 (by decide) ?_
    refine jJ_iadd (pc := 28) dX7_isPair_28 ⟨by omega, by omega⟩ ?_
    refine jJ_iald (pc := 29) dX7_isPair_29 hR.a13 ⟨by omega, by omega⟩ ?_
    rw [e2]
    refine jJ_iconst (pc := 30) dX7_isPair_30 (by decide) ?_
    refine jJ_icmp_eq (pc := 31) (tgt := 38) dX7_isPair_31 (by decide) (fun c31 => ?_) (fun c31 => ?_)
    · refine jJ_iconst (pc := 38) dX7_isPair_38 (by decide) ?_
      refine jJ_zret (pc := 39) dX7_isPair_39 rfl (by decide) ?_
      exact ⟨by first | (exfalso; omega) | rw [← jb_t (by omega)] | rw [← jb_f (by omega)], rfl, rfl⟩
    · refine jJ_iconst (pc := 34) dX7_isPair_34 (by decide) ?_
      refine jJ_goto (pc := 35) (tgt := 39) dX7_isPair_35 (by decide) ?_
      refine jJ_zret (pc := 39) dX7_isPair_39 rfl (by decide) ?_
      exact ⟨by first | (exfalso; omega) | rw [← jb_t (by omega)] | rw [← jb_f (by omega)], rfl, rfl⟩
def rTol (I : jI) (a : Nat → Nat) (t i : Int) : Int := rTl (rTs (I (a 14)) (I (a 15)) (I (a 8)) t i) (jb (rg (I (a 13)) t i ≠ 2 ∧ rg (I (a 13)) t (i + 1) ≠ 2)) (I (a 18) (8 * rKd (I (a 13)) (I (a 11)) (I (a 6)) t i).toNat) (I (a 18) (8 * rKd (I (a 13)) (I (a 11)) (I (a 6)) t i + 1).toNat) (I (a 18) (8 * rKd (I (a 13)) (I (a 11)) (I (a 6)) t i + 2).toNat) (I (a 18) (8 * rKd (I (a 13)) (I (a 11)) (I (a 6)) t i + 3).toNat) (I (a 18) (8 * rKd (I (a 13)) (I (a 11)) (I (a 6)) t i + 4).toNat) (I (a 18) (8 * rKd (I (a 13)) (I (a 11)) (I (a 6)) t i + 5).toNat)
theorem ite_r {p : Prop} [Decidable p] {x y : Int} (hx : 0 ≤ x ∧ x ≤ 15) (hy : 0 ≤ y ∧ y ≤ 15) : 0 ≤ (if p then x else y) ∧ (if p then x else y) ≤ 15 := by
  by_cases h : p
  · rw [if_pos h]; exact hx
  · rw [if_neg h]; exact hy
theorem kindB_r (f s : Int) : 0 ≤ kindB f s ∧ kindB f s ≤ 15 := by
  unfold kindB kindS
  repeat (refine ite_r (by decide) ?_)
  decide
theorem r_toldAt {t i : Int} (hR : RfL E P m a) (ht : 0 ≤ t ∧ t ≤ 12) (hi : 0 ≤ i ∧ i ≤ 199) (hb : 0 ≤ rg (I (a 11)) t i ∧ rg (I (a 11)) t i ≤ 799) (hb1 : 0 ≤ rg (I (a 11)) t (i + 1) ∧ rg (I (a 11)) t (i + 1) ≤ 799) (hd : 3 ≤ d) : jC E yX7_toldAt cX7_toldAt 4 (some .int) d [jp m, ji t, ji i] I P (jD (some (ji (rTol I a t i))) I P) := by
  have hk : 0 ≤ rKd (I (a 13)) (I (a 11)) (I (a 6)) t i ∧ rKd (I (a 13)) (I (a 11)) (I (a 6)) t i ≤ 15 := kindB_r _ _
  refine jC_intro (by decide +kernel) (by simp [jc, va_rf, Value.category]) (Nat.le_of_ble_eq_true rfl) ?_
  refine jJ_bipush (pc := 0) dX7_toldAt_0 (by decide) ?_
  refine jJ_aload_n (pc := 2) dX7_toldAt_2 rfl ?_
  refine jJ_iload_n (pc := 3) dX7_toldAt_3 rfl ?_
  refine jJ_iload_n (pc := 4) dX7_toldAt_4 rfl ?_
  refine jJ_callVd (pc := 5) (as := [_, _]) dX7_toldAt_5 mX7_226 (jRcv_of hR.1 rfl rfl) (Nat.le_of_ble_eq_true rfl) (jRm_ok (by omega) (by decide)) (r_kindOf (d := d - 1) hR ht hi hb hb1 (by omega)) ?_
  refine jJ_imul (pc := 8) dX7_toldAt_8 ⟨by omega, by omega⟩ ?_
  refine jJ_istore_n (pc := 9) (ls' := [_, _, _, _]) dX7_toldAt_9 (Nat.le_of_ble_eq_true rfl) rfl ?_
  refine jJ_aload_n (pc := 10) dX7_toldAt_10 rfl ?_
  refine jJ_iload_n (pc := 11) dX7_toldAt_11 rfl ?_
  refine jJ_iload_n (pc := 12) dX7_toldAt_12 rfl ?_
  refine jJ_callVd (pc := 13) (as := [_, _]) dX7_toldAt_13 mX7_232 (jRcv_of hR.1 rfl rfl) (Nat.le_of_ble_eq_true rfl) (jRm_ok (by omega) (by decide)) (r_testsOf (d := d - 1) hR ht hi) ?_
  refine jJ_aload_n (pc := 16) dX7_toldAt_16 rfl ?_
  refine jJ_iload_n (pc := 17) dX7_toldAt_17 rfl ?_
  refine jJ_iload_n (pc := 18) dX7_toldAt_18 rfl ?_
  refine jJ_callVd (pc := 19) (as := [_, _]) dX7_toldAt_19 mX7_238 (jRcv_of hR.1 rfl rfl) (Nat.le_of_ble_eq_true rfl) (jRm_ok (by omega) (by decide)) (r_isPair (d := d - 1) hR ht hi) ?_
  refine jJ_aload_n (pc := 22) dX7_toldAt_22 rfl ?_
  refine jJ_getr (pc := 23) dX7_toldAt_23 fX7_54 rfl hR.1 hR.p18 ?_
  refine jJ_iload_n (pc := 26) dX7_toldAt_26 rfl ?_
  refine jJ_iald (pc := 27) dX7_toldAt_27 hR.a18 ⟨by omega, by omega⟩ ?_
  refine jJ_aload_n (pc := 28) dX7_toldAt_28 rfl ?_
  refine jJ_getr (pc := 29) dX7_toldAt_29 fX7_54 rfl hR.1 hR.p18 ?_
  refine jJ_iload_n (pc := 32) dX7_toldAt_32 rfl ?_
  refine jJ_iconst (pc := 33) dX7_toldAt_33 (by decide) ?_
  refine jJ_iadd (pc := 34) dX7_toldAt_34 ⟨by omega, by omega⟩ ?_
  refine jJ_iald (pc := 35) dX7_toldAt_35 hR.a18 ⟨by omega, by omega⟩ ?_
  refine jJ_aload_n (pc := 36) dX7_toldAt_36 rfl ?_
  refine jJ_getr (pc := 37) dX7_toldAt_37 fX7_54 rfl hR.1 hR.p18 ?_
  refine jJ_iload_n (pc := 40) dX7_toldAt_40 rfl ?_
  refine jJ_iconst (pc := 41) dX7_toldAt_41 (by decide) ?_
  refine jJ_iadd (pc := 42) dX7_toldAt_42 ⟨by omega, by omega⟩ ?_
  refine jJ_iald (pc := 43) dX7_toldAt_43 hR.a18 ⟨by omega, by omega⟩ ?_
  refine jJ_aload_n (pc := 44) dX7_toldAt_44 rfl ?_
  refine jJ_getr (pc := 45) dX7_toldAt_45 fX7_54 rfl hR.1 hR.p18 ?_
  refine jJ_iload_n (pc := 48) dX7_toldAt_48 rfl ?_
  refine jJ_iconst (pc := 49) dX7_toldAt_49 (by decide) ?_
  refine jJ_iadd (pc := 50) dX7_toldAt_50 ⟨by omega, by omega⟩ ?_
  refine jJ_iald (pc := 51) dX7_toldAt_51 hR.a18 ⟨by omega, by omega⟩ ?_
  refine jJ_aload_n (pc := 52) dX7_toldAt_52 rfl ?_
  refine jJ_getr (pc := 53) dX7_toldAt_53 fX7_54 rfl hR.1 hR.p18 ?_
  refine jJ_iload_n (pc := 56) dX7_toldAt_56 rfl ?_
  refine jJ_iconst (pc := 57) dX7_toldAt_57 (by decide) ?_
  refine jJ_iadd (pc := 58) dX7_toldAt_58 ⟨by omega, by omega⟩ ?_
  refine jJ_iald (pc := 59) dX7_toldAt_59 hR.a18 ⟨by omega, by omega⟩ ?_
  refine jJ_aload_n (pc := 60) dX7_toldAt_60 rfl ?_
  refine jJ_getr (pc := 61) dX7_toldAt_61 fX7_54 rfl hR.1 hR.p18 ?_
  refine jJ_iload_n (pc := 64) dX7_toldAt_64 rfl ?_
  refine jJ_iconst (pc := 65) dX7_toldAt_65 (by decide) ?_
  refine jJ_iadd (pc := 66) dX7_toldAt_66 ⟨by omega, by omega⟩ ?_
  refine jJ_iald (pc := 67) dX7_toldAt_67 hR.a18 ⟨by omega, by omega⟩ ?_
  refine jJ_callSd (pc := 68) (as := [_, _, _, _, _, _, _, _]) dX7_toldAt_68 mX7_241 (Nat.le_of_ble_eq_true rfl) (jRm_ok (by omega) (by decide)) (r_tells (d := d - 1)) ?_
  refine jJ_iret (pc := 71) dX7_toldAt_71 rfl ?_
  exact ⟨rfl, rfl, rfl⟩
end JRef1
