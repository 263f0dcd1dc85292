section JPub
variable {E : jE} {I : jI} {P : jP} {d : Nat} {h : Nat}
theorem jRmx_ok {d d' n2 mc cs ss : Nat} (h : d' + 1 ≤ d) (hn : n2 ≤ 41) (h1 : cs ≤ mc) (h2 : ss ≤ 6 * mc) : d' + 1 ≤ (jRmx d mc).frames ∧ 8 + (n2 + 11) + 60 * d' ≤ (jRmx d mc).locals ∧ cs ≤ (jRmx d mc).cells ∧ ss ≤ (jRmx d mc).slots := by
  refine ⟨h, ?_, h1, h2⟩
  show 8 + (n2 + 11) + 60 * d' ≤ 60 * d
  omega
/-- this answer, where c holds -/
def jDc (c : Prop) (v : Option jV) (I1 : jI) (P1 : jP) : Option jV → jI → jP → Prop := fun q I' P' => c ∧ q = v ∧ I' = I1 ∧ P' = P1
/-- this throw, where c holds -/
def jXx (c : Prop) (nm : String) (I1 : jI) (P1 : jP) : String → jI → jP → Prop := fun Ec I' P' => c ∧ Ec = nm ∧ I' = I1 ∧ P' = P1
/-- there is a TEXT of this number -/
def exT (I : jI) (x : Nat → Nat) (t : Int) : Prop := 0 ≤ t ∧ t < 12 ∧ I (x t.toNat) 8 ≠ 0
theorem c_existing {tx : Nat} {x : Nat → Nat} {t : Int} (hl : (eX E).stackTraces = false) (h0 : jK E 6 h) (p2 : P h 2 = some tx) (atx : jAr E 13 tx 12) (hts : ∀ t, t < 12 → P tx t = some (x t) ∧ jK E 5 (x t)) (hd : 6 ≤ d) :
    jCx E yX6_existing cX6_existing 2 (some (.object "HouseManner$Text")) d 1 [jp h, ji t] I P (jDc (exT I x t) (some (jp (x t.toNat))) I P) (jXx (¬ exT I x t) jNSE I P) := by
  refine jCx_intro (by decide +kernel) (by simp [jc, va_rf, Value.category]) (Nat.le_of_ble_eq_true rfl) ?_
  refine jJ_iload_n (pc := 0) dX6_existing_0 rfl ?_
  refine jJ_callSd (pc := 1) (as := [_]) dX6_existing_1 mX6_86 (Nat.le_of_ble_eq_true rfl) (jRmx_ok (by omega) (by decide) (by decide) (by decide)) (c_isTextNumber (d := d - 1)) ?_
  refine jJ_if_eq (pc := 4) (tgt := 19) dX6_existing_4 (by decide) (fun c4 => ?_) (fun c4 => ?_)
  · simp only [jb_z] at c4
    refine jJ_throw (pc := 19) hl rfl jth_NSE dX6_existing_19 dX6_existing_22 dX6_existing_23 dX6_existing_26 (Nat.le_of_ble_eq_true rfl) (by omega) ⟨by decide, by decide⟩ ?_
    exact ⟨fun z => c4 ⟨z.1, z.2.1⟩, rfl, rfl, rfl⟩
  · simp only [jb_nz] at c4
    obtain ⟨pt, kt⟩ := hts t.toNat (by omega)
    refine jJ_aload_n (pc := 7) dX6_existing_7 rfl ?_
    refine jJ_getr (pc := 8) dX6_existing_8 fX6_15 rfl (by assumption) (by first | exact p2 | exact pt) ?_
    refine jJ_iload_n (pc := 11) dX6_existing_11 rfl ?_
    refine jJ_aald (pc := 12) (t0 := 5) dX6_existing_12 atx rfl (by decide) ⟨by omega, by omega⟩ (by first | exact p2 | exact pt) ?_
    refine jJ_geti (pc := 13) dX6_existing_13 fX6_114 rfl (by assumption) ?_
    refine jJ_if_ne (pc := 16) (tgt := 27) dX6_existing_16 (by decide) (fun c16 => ?_) (fun c16 => ?_)
    · refine jJ_aload_n (pc := 27) dX6_existing_27 rfl ?_
      refine jJ_getr (pc := 28) dX6_existing_28 fX6_15 rfl (by assumption) (by first | exact p2 | exact pt) ?_
      refine jJ_iload_n (pc := 31) dX6_existing_31 rfl ?_
      refine jJ_aald (pc := 32) (t0 := 5) dX6_existing_32 atx rfl (by decide) ⟨by omega, by omega⟩ (by first | exact p2 | exact pt) ?_
      refine jJ_aretx (pc := 33) dX6_existing_33 rfl (Or.inl ⟨_, rfl⟩) ⟨by decide, by decide⟩ ?_
      exact ⟨⟨c4.1, c4.2, c16⟩, rfl, rfl, rfl⟩
    · refine jJ_throw (pc := 19) hl rfl jth_NSE dX6_existing_19 dX6_existing_22 dX6_existing_23 dX6_existing_26 (Nat.le_of_ble_eq_true rfl) (by omega) ⟨by decide, by decide⟩ ?_
      exact ⟨fun z => z.2.2 c16, rfl, rfl, rfl⟩
theorem c_fault {w : Int} (hl : (eX E).stackTraces = false) (h0 : jK E 6 h) (hd : 6 ≤ d) :
    jCx E yX6_fault cX6_fault 2 (some .int) d 1 [jp h, ji w] I P (jDc (w = 0 ∨ w = 1) (some (ji (if w = 0 then I h 5 else I h 6))) I P) (jXx (¬ (w = 0 ∨ w = 1)) jNSE I P) := by
  refine jCx_intro (by decide +kernel) (by simp [jc, va_rf, Value.category]) (Nat.le_of_ble_eq_true rfl) ?_
  refine jJ_iload_n (pc := 0) dX6_fault_0 rfl ?_
  by_cases w0 : w = 0
  · subst w0
    refine jJ_lookup (pc := 1) (tgt := 28) dX6_fault_1 (by decide) (off := 27) (by decide) (by decide) ?_
    refine jJ_aload_n (pc := 28) dX6_fault_28 rfl ?_
    refine jJ_geti (pc := 29) dX6_fault_29 fX6_97 rfl (by assumption) ?_
    refine jJ_iretx (pc := 32) dX6_fault_32 rfl ⟨by decide, by decide⟩ ?_
    exact ⟨Or.inl rfl, rfl, rfl, rfl⟩
  · by_cases w1 : w = 1
    · subst w1
      refine jJ_lookup (pc := 1) (tgt := 33) dX6_fault_1 (by decide) (off := 32) (by decide) (by decide) ?_
      refine jJ_aload_n (pc := 33) dX6_fault_33 rfl ?_
      refine jJ_geti (pc := 34) dX6_fault_34 fX6_31 rfl (by assumption) ?_
      refine jJ_iretx (pc := 37) dX6_fault_37 rfl ⟨by decide, by decide⟩ ?_
      exact ⟨Or.inr rfl, rfl, rfl, rfl⟩
    · refine jJ_lookup (pc := 1) (tgt := 38) dX6_fault_1 (by decide) (off := 37) (by simp [Op.lookupswitch.offset, w0, w1, Ne.symm w0, Ne.symm w1]) (by decide) ?_
      refine jJ_throw (pc := 38) hl rfl jth_NSE dX6_fault_38 dX6_fault_41 dX6_fault_42 dX6_fault_45 (Nat.le_of_ble_eq_true rfl) (by omega) ⟨by decide, by decide⟩ ?_
      exact ⟨by omega, rfl, rfl, rfl⟩
theorem c_drop {tx : Nat} {x : Nat → Nat} {t : Int} (hl : (eX E).stackTraces = false) (h0 : jK E 6 h) (p2 : P h 2 = some tx) (atx : jAr E 13 tx 12) (hts : ∀ t, t < 12 → P tx t = some (x t) ∧ jK E 5 (x t)) (hb : ∀ t, t < 12 → I (x t) 8 = 0 ∨ I (x t) 8 = 1) (hd : 6 ≤ d) :
    jCx E yX6_drop cX6_drop 3 (some .boolean) d 1 [jp h, ji t] I P (jDc (0 ≤ t ∧ t < 12) (some (ji (I (x t.toNat) 8))) (if I h 13 = t then jput (jput I (x t.toNat) 8 0) h 13 (-1) else jput I (x t.toNat) 8 0) P) (jXx (¬ (0 ≤ t ∧ t < 12)) jIAE I P) := by
  refine jCx_intro (by decide +kernel) (by simp [jc, va_rf, Value.category]) (Nat.le_of_ble_eq_true rfl) ?_
  refine jJ_iload_n (pc := 0) dX6_drop_0 rfl ?_
  refine jJ_callSd (pc := 1) (as := [_]) dX6_drop_1 mX6_86 (Nat.le_of_ble_eq_true rfl) (jRmx_ok (by omega) (by decide) (by decide) (by decide)) (c_isTextNumber (d := d - 1)) ?_
  refine jJ_if_ne (pc := 4) (tgt := 15) dX6_drop_4 (by decide) (fun c4 => ?_) (fun c4 => ?_)
  · simp only [jb_nz] at c4
    obtain ⟨pt, kt⟩ := hts t.toNat (by omega)
    have hne : x t.toNat ≠ h := jne kt.2 h0.2 (by decide)
    refine jJ_aload_n (pc := 15) dX6_drop_15 rfl ?_
    refine jJ_getr (pc := 16) dX6_drop_16 fX6_15 rfl (by assumption) (by first | exact p2 | exact pt) ?_
    refine jJ_iload_n (pc := 19) dX6_drop_19 rfl ?_
    refine jJ_aald (pc := 20) (t0 := 5) dX6_drop_20 atx rfl (by decide) ⟨by omega, by omega⟩ (by first | exact p2 | exact pt) ?_
    refine jJ_geti (pc := 21) dX6_drop_21 fX6_114 rfl (by assumption) ?_
    refine jJ_istore_n (pc := 24) (ls' := [_, _, _]) dX6_drop_24 (Nat.le_of_ble_eq_true rfl) rfl ?_
    refine jJ_aload_n (pc := 25) dX6_drop_25 rfl ?_
    refine jJ_getr (pc := 26) dX6_drop_26 fX6_15 rfl (by assumption) (by first | exact p2 | exact pt) ?_
    refine jJ_iload_n (pc := 29) dX6_drop_29 rfl ?_
    refine jJ_aald (pc := 30) (t0 := 5) dX6_drop_30 atx rfl (by decide) ⟨by omega, by omega⟩ (by first | exact p2 | exact pt) ?_
    refine jJ_iconst (pc := 31) dX6_drop_31 (by decide) ?_
    refine jJ_puti (pc := 32) dX6_drop_32 fX6_114w rfl ⟨by decide, by decide⟩ (by assumption) ?_
    refine jJ_aload_n (pc := 35) dX6_drop_35 rfl ?_
    refine jJ_iload_n (pc := 36) dX6_drop_36 rfl ?_
    refine jJ_callVd (pc := 37) (as := [_]) dX6_drop_37 mX6_118 (jRcv_of (by assumption) rfl rfl) (Nat.le_of_ble_eq_true rfl) (jRmx_ok (by omega) (by decide) (by decide) (by decide)) (c_forgetOutOf (d := d - 1) h0) ?_
    refine jJ_iload_n (pc := 40) dX6_drop_40 rfl ?_
    refine jJ_zretx (pc := 41) dX6_drop_41 rfl (hb t.toNat (by omega)) ⟨by decide, by decide⟩ ?_
    exact ⟨c4, rfl, by rw [jput_a _ hne.symm], rfl⟩
  · simp only [jb_z] at c4
    refine jJ_throw (pc := 7) hl rfl jth_IAE dX6_drop_7 dX6_drop_10 dX6_drop_11 dX6_drop_14 (Nat.le_of_ble_eq_true rfl) (by omega) ⟨by decide, by decide⟩ ?_
    exact ⟨c4, rfl, rfl, rfl⟩
theorem c_about {tx : Nat} {x : Nat → Nat} {t w : Int} (hl : (eX E).stackTraces = false) (h0 : jK E 6 h) (p2 : P h 2 = some tx) (atx : jAr E 13 tx 12) (hts : ∀ t, t < 12 → P tx t = some (x t) ∧ jK E 5 (x t)) (hd : 7 ≤ d) :
    jCx E yX6_about cX6_about 4 (some .int) d 2 [jp h, ji t, ji w] I P (jDc (exT I x t ∧ 0 ≤ w ∧ w ≤ 3) (some (ji (if w = 0 then I (x t.toNat) 11 else if w = 1 then I (x t.toNat) 9 else if w = 2 then I (x t.toNat) 10 else I (x t.toNat) 12))) I P) (jXx (¬ (exT I x t ∧ 0 ≤ w ∧ w ≤ 3)) jNSE I P) := by
  refine jCx_intro (by decide +kernel) (by simp [jc, va_rf, Value.category]) (Nat.le_of_ble_eq_true rfl) ?_
  refine jJ_aload_n (pc := 0) dX6_about_0 rfl ?_
  refine jJ_iload_n (pc := 1) dX6_about_1 rfl ?_
  refine jJ_callVx (pc := 2) (as := [_]) dX6_about_2 mX6_124 (jRcv_of (by assumption) rfl rfl) (Nat.le_of_ble_eq_true rfl) (jRmx_ok (by omega) (by decide) (by decide) (by decide)) (c_existing (d := d - 1) hl h0 p2 atx hts (by omega)) ⟨by decide, by decide⟩ ?_ ?_
  · rintro Ec I' P' ⟨hx, rfl, rfl, rfl⟩
    exact ⟨fun z => hx z.1, rfl, rfl, rfl⟩
  · rintro r I' P' ⟨hx, rfl, rfl, rfl⟩
    have kt := (hts t.toNat (by have := hx.1; have := hx.2.1; omega)).2
    refine jJ_astore_n (pc := 5) (ls' := [_, _, _, _]) dX6_about_5 (Nat.le_of_ble_eq_true rfl) rfl ?_
    refine jJ_iload_n (pc := 6) dX6_about_6 rfl ?_
    by_cases hw : 0 ≤ w ∧ w ≤ 3
    · rcases (show w = 0 ∨ w = 1 ∨ w = 2 ∨ w = 3 by omega) with rfl | rfl | rfl | rfl
      · refine jJ_tableIn (pc := 7) (tgt := 36) dX6_about_7 (by decide) (off := 29) (by decide) (by decide) ?_
        refine jJ_aload_n (pc := 36) dX6_about_36 rfl ?_
        refine jJ_geti (pc := 37) dX6_about_37 fX6_128 rfl (by assumption) ?_
        refine jJ_iretx (pc := 40) dX6_about_40 rfl ⟨by decide, by decide⟩ ?_
        exact ⟨⟨hx, hw⟩, rfl, rfl, rfl⟩
      · refine jJ_tableIn (pc := 7) (tgt := 41) dX6_about_7 (by decide) (off := 34) (by decide) (by decide) ?_
        refine jJ_aload_n (pc := 41) dX6_about_41 rfl ?_
        refine jJ_geti (pc := 42) dX6_about_42 fX6_131 rfl (by assumption) ?_
        refine jJ_iretx (pc := 45) dX6_about_45 rfl ⟨by decide, by decide⟩ ?_
        exact ⟨⟨hx, hw⟩, rfl, rfl, rfl⟩
      · refine jJ_tableIn (pc := 7) (tgt := 46) dX6_about_7 (by decide) (off := 39) (by decide) (by decide) ?_
        refine jJ_aload_n (pc := 46) dX6_about_46 rfl ?_
        refine jJ_geti (pc := 47) dX6_about_47 fX6_134 rfl (by assumption) ?_
        refine jJ_iretx (pc := 50) dX6_about_50 rfl ⟨by decide, by decide⟩ ?_
        exact ⟨⟨hx, hw⟩, rfl, rfl, rfl⟩
      · refine jJ_tableIn (pc := 7) (tgt := 51) dX6_about_7 (by decide) (off := 44) (by decide) (by decide) ?_
        refine jJ_aload_n (pc := 51) dX6_about_51 rfl ?_
        refine jJ_geti (pc := 52) dX6_about_52 fX6_137 rfl (by assumption) ?_
        refine jJ_iretx (pc := 55) dX6_about_55 rfl ⟨by decide, by decide⟩ ?_
        exact ⟨⟨hx, hw⟩, rfl, rfl, rfl⟩
    · refine jJ_tableOut (pc := 7) (tgt := 56) dX6_about_7 (by omega) (by decide) ?_
      refine jJ_throw (pc := 56) hl rfl jth_NSE dX6_about_56 dX6_about_59 dX6_about_60 dX6_about_63 (Nat.le_of_ble_eq_true rfl) (by omega) ⟨by decide, by decide⟩ ?_
      exact ⟨fun z => hw z.2, rfl, rfl, rfl⟩
theorem c_gap {tx : Nat} {x : Nat → Nat} {q : Nat → Nat → Nat} {t i w : Int} (hl : (eX E).stackTraces = false) (h0 : jK E 6 h) (hT : TsL E P h tx x q) (hI : ∀ t, t < 12 → I (x t) 8 ≠ 0 → TxG I (x t) (q t)) (hd : 7 ≤ d) :
    jCx E yX6_gap cX6_gap 5 (some .int) d 2 [jp h, ji t, ji i, ji w] I P (jDc (exT I x t ∧ (0 ≤ i ∧ i < gapsN (I (x t.toNat) 11)) ∧ 0 ≤ w ∧ w ≤ 3) (some (ji (if w = 0 then I (q t.toNat 6) i.toNat else if w = 1 then I (q t.toNat 7) i.toNat else if w = 2 then I (q t.toNat 4) (i.toNat + 1) else tstV (I (q t.toNat 5) i.toNat) (I (x t.toNat) 10) (I (q t.toNat 4) (i.toNat + 1))))) I P) (jXx (¬ (exT I x t ∧ (0 ≤ i ∧ i < gapsN (I (x t.toNat) 11)) ∧ 0 ≤ w ∧ w ≤ 3)) jNSE I P) := by
  obtain ⟨p2, atx, hTs⟩ := hT
  refine jCx_intro (by decide +kernel) (by simp [jc, va_rf, Value.category]) (Nat.le_of_ble_eq_true rfl) ?_
  refine jJ_aload_n (pc := 0) dX6_gap_0 rfl ?_
  refine jJ_iload_n (pc := 1) dX6_gap_1 rfl ?_
  refine jJ_callVx (pc := 2) (as := [_]) dX6_gap_2 mX6_124 (jRcv_of (by assumption) rfl rfl) (Nat.le_of_ble_eq_true rfl) (jRmx_ok (by omega) (by decide) (by decide) (by decide)) (c_existing (x := x) (d := d - 1) hl h0 p2 atx (fun t ht => ⟨(hTs t ht).1, (hTs t ht).2.1⟩) (by omega)) ⟨by decide, by decide⟩ ?_ ?_
  · rintro Ec I' P' ⟨hx, rfl, rfl, rfl⟩
    exact ⟨fun z => hx z.1, rfl, rfl, rfl⟩
  · rintro r I' P' ⟨hx, rfl, rfl, rfl⟩
    have ht : t.toNat < 12 := by have := hx.1; have := hx.2.1; omega
    have hx5 := (hTs t.toNat ht).2
    obtain ⟨hc, hg6, hg5, hg10⟩ := hI t.toNat ht hx.2.2
    have hgn : gapsN (I' (x t.toNat) 11) ≤ 199 := by unfold gapsN; split <;> omega
    have kt := hx5.1
    have hx50 := hx5
    obtain ⟨-, ⟨q0, q1, q2, q3, q4, q5, q6, q7⟩, ⟨a0, a1, a2, a3, a4, a5, a6, a7⟩⟩ := hx5
    refine jJ_astore (pc := 5) (ls' := [_, _, _, _, _]) dX6_gap_5 (Nat.le_of_ble_eq_true rfl) rfl ?_
    refine jJ_iload_n (pc := 7) dX6_gap_7 rfl ?_
    refine jJ_if_lt (pc := 8) (tgt := 20) dX6_gap_8 (by decide) (fun c8 => ?_) (fun c8 => ?_)
    · refine jJ_throw (pc := 20) hl rfl jth_NSE dX6_gap_20 dX6_gap_23 dX6_gap_24 dX6_gap_27 (Nat.le_of_ble_eq_true rfl) (by omega) ⟨by decide, by decide⟩ ?_
      exact ⟨fun z => by have := z.2.1.1; omega, rfl, rfl, rfl⟩
    · refine jJ_iload_n (pc := 11) dX6_gap_11 rfl ?_
      refine jJ_aload (pc := 12) dX6_gap_12 rfl ?_
      refine jJ_callVd (pc := 14) (as := []) dX6_gap_14 mX6_140 (jRcv_of (by assumption) rfl rfl) (Nat.le_of_ble_eq_true rfl) (jRmx_ok (by omega) (by decide) (by decide) (by decide)) (c_Text_gapCount (d := d - 1) hx50) ?_
      rw [gapsN_eq]
      refine jJ_icmp_lt (pc := 17) (tgt := 28) dX6_gap_17 (by decide) (fun c17 => ?_) (fun c17 => ?_)
      · have hg5' := hg5 i.toNat (by omega)
        have hii : ((i.toNat : Nat) : Int) = i := by omega
        by_cases hw : 0 ≤ w ∧ w ≤ 3
        · refine jJ_iload_n (pc := 28) dX6_gap_28 rfl ?_
          rcases (show w = 0 ∨ w = 1 ∨ w = 2 ∨ w = 3 by omega) with rfl | rfl | rfl | rfl
          · refine jJ_tableIn (pc := 29) (tgt := 60) dX6_gap_29 (by decide) (off := 31) (by decide) (by decide) ?_
            refine jJ_aload (pc := 60) dX6_gap_60 rfl ?_
            refine jJ_getr (pc := 62) dX6_gap_62 fX6_144 rfl (by assumption) (by assumption) ?_
            refine jJ_iload_n (pc := 65) dX6_gap_65 rfl ?_
            refine jJ_iald (pc := 66) dX6_gap_66 a6 ⟨by omega, by omega⟩ ?_
            refine jJ_iretx (pc := 67) dX6_gap_67 rfl ⟨by decide, by decide⟩ ?_
            exact ⟨⟨hx, ⟨by omega, by omega⟩, hw⟩, rfl, rfl, rfl⟩
          · refine jJ_tableIn (pc := 29) (tgt := 68) dX6_gap_29 (by decide) (off := 39) (by decide) (by decide) ?_
            refine jJ_aload (pc := 68) dX6_gap_68 rfl ?_
            refine jJ_getr (pc := 70) dX6_gap_70 fX6_147 rfl (by assumption) (by assumption) ?_
            refine jJ_iload_n (pc := 73) dX6_gap_73 rfl ?_
            refine jJ_iald (pc := 74) dX6_gap_74 a7 ⟨by omega, by omega⟩ ?_
            refine jJ_iretx (pc := 75) dX6_gap_75 rfl ⟨by decide, by decide⟩ ?_
            exact ⟨⟨hx, ⟨by omega, by omega⟩, hw⟩, rfl, rfl, rfl⟩
          · refine jJ_tableIn (pc := 29) (tgt := 76) dX6_gap_29 (by decide) (off := 47) (by decide) (by decide) ?_
            refine jJ_aload (pc := 76) dX6_gap_76 rfl ?_
            refine jJ_getr (pc := 78) dX6_gap_78 fX6_150 rfl (by assumption) (by assumption) ?_
            refine jJ_iload_n (pc := 81) dX6_gap_81 rfl ?_
            refine jJ_iconst (pc := 82) dX6_gap_82 (by decide) ?_
            refine jJ_iadd (pc := 83) dX6_gap_83 ⟨by omega, by omega⟩ ?_
            refine jJ_iald (pc := 84) dX6_gap_84 a4 ⟨by omega, by omega⟩ ?_
            refine jJ_iretx (pc := 85) dX6_gap_85 rfl ⟨by decide, by decide⟩ ?_
            exact ⟨⟨hx, ⟨by omega, by omega⟩, hw⟩, by rw [if_neg (by decide), if_neg (by decide), if_pos rfl, show (i + 1).toNat = i.toNat + 1 by omega], rfl, rfl⟩
          · refine jJ_tableIn (pc := 29) (tgt := 86) dX6_gap_29 (by decide) (off := 57) (by decide) (by decide) ?_
            have k := c_Text_testsAt (E := E) (I := I') (P := P') (d := d - 1) (x := x t.toNat) (q := q t.toNat) (g := i.toNat) hx50 (by omega) hg5' hg10
            rw [hii] at k
            refine jJ_aload (pc := 86) dX6_gap_86 rfl ?_
            refine jJ_iload_n (pc := 88) dX6_gap_88 rfl ?_
            refine jJ_callVd (pc := 89) (as := [_]) dX6_gap_89 mX6_153 (jRcv_of (by assumption) rfl rfl) (Nat.le_of_ble_eq_true rfl) (jRmx_ok (by omega) (by decide) (by decide) (by decide)) (k) ?_
            refine jJ_iretx (pc := 92) dX6_gap_92 rfl ⟨by decide, by decide⟩ ?_
            exact ⟨⟨hx, ⟨by omega, by omega⟩, hw⟩, rfl, rfl, rfl⟩
        · refine jJ_iload_n (pc := 28) dX6_gap_28 rfl ?_
          refine jJ_tableOut (pc := 29) (tgt := 93) dX6_gap_29 (by omega) (by decide) ?_
          refine jJ_throw (pc := 93) hl rfl jth_NSE dX6_gap_93 dX6_gap_96 dX6_gap_97 dX6_gap_100 (Nat.le_of_ble_eq_true rfl) (by omega) ⟨by decide, by decide⟩ ?_
          exact ⟨fun z => hw z.2.2, rfl, rfl, rfl⟩
      · refine jJ_throw (pc := 20) hl rfl jth_NSE dX6_gap_20 dX6_gap_23 dX6_gap_24 dX6_gap_27 (Nat.le_of_ble_eq_true rfl) (by omega) ⟨by decide, by decide⟩ ?_
        exact ⟨fun z => by have := z.2.1.2; omega, rfl, rfl, rfl⟩
theorem c_price {w v : Int} (hl : (eX E).stackTraces = false) (h0 : jK E 6 h) (hd : 6 ≤ d) :
    jCx E yX6_price cX6_price 4 (some .int) d 1 [jp h, ji w, ji v] I P (jDc ((0 ≤ w ∧ w ≤ 1) ∧ 0 ≤ v ∧ v ≤ 100) (some (ji (if w = 0 then I h 7 else I h 8))) (if w = 0 then jput I h 7 v else jput I h 8 v) P) (jXx (¬ ((0 ≤ w ∧ w ≤ 1) ∧ 0 ≤ v ∧ v ≤ 100)) jIAE I P) := by
  refine jCx_intro (by decide +kernel) (by simp [jc, va_rf, Value.category]) (Nat.le_of_ble_eq_true rfl) ?_
  refine jJ_iload_n (pc := 0) dX6_price_0 rfl ?_
  refine jJ_if_lt (pc := 1) (tgt := 19) dX6_price_1 (by decide) (fun c1 => ?_) (fun c1 => ?_)
  · refine jJ_throw (pc := 19) hl rfl jth_IAE dX6_price_19 dX6_price_22 dX6_price_23 dX6_price_26 (Nat.le_of_ble_eq_true rfl) (by omega) ⟨by decide, by decide⟩ ?_
    exact ⟨by omega, rfl, rfl, rfl⟩
  · refine jJ_iload_n (pc := 4) dX6_price_4 rfl ?_
    refine jJ_iconst (pc := 5) dX6_price_5 (by decide) ?_
    refine jJ_icmp_gt (pc := 6) (tgt := 19) dX6_price_6 (by decide) (fun c6 => ?_) (fun c6 => ?_)
    · refine jJ_throw (pc := 19) hl rfl jth_IAE dX6_price_19 dX6_price_22 dX6_price_23 dX6_price_26 (Nat.le_of_ble_eq_true rfl) (by omega) ⟨by decide, by decide⟩ ?_
      exact ⟨by omega, rfl, rfl, rfl⟩
    · refine jJ_iload_n (pc := 9) dX6_price_9 rfl ?_
      refine jJ_if_lt (pc := 10) (tgt := 19) dX6_price_10 (by decide) (fun c10 => ?_) (fun c10 => ?_)
      · refine jJ_throw (pc := 19) hl rfl jth_IAE dX6_price_19 dX6_price_22 dX6_price_23 dX6_price_26 (Nat.le_of_ble_eq_true rfl) (by omega) ⟨by decide, by decide⟩ ?_
        exact ⟨by omega, rfl, rfl, rfl⟩
      · refine jJ_iload_n (pc := 13) dX6_price_13 rfl ?_
        refine jJ_bipush (pc := 14) dX6_price_14 (by decide) ?_
        refine jJ_icmp_le (pc := 16) (tgt := 27) dX6_price_16 (by decide) (fun c16 => ?_) (fun c16 => ?_)
        · refine jJ_iload_n (pc := 27) dX6_price_27 rfl ?_
          refine jJ_if_ne (pc := 28) (tgt := 38) dX6_price_28 (by decide) (fun c28 => ?_) (fun c28 => ?_)
          · refine jJ_aload_n (pc := 38) dX6_price_38 rfl ?_
            refine jJ_geti (pc := 39) dX6_price_39 fX6_38 rfl (by assumption) ?_
            refine jJ_istore_n (pc := 42) (ls' := [_, _, _, _]) dX6_price_42 (Nat.le_of_ble_eq_true rfl) rfl ?_
            refine jJ_iload_n (pc := 43) dX6_price_43 rfl ?_
            refine jJ_if_ne (pc := 44) (tgt := 55) dX6_price_44 (by decide) (fun c44 => ?_) (fun c44 => ?_)
            · refine jJ_aload_n (pc := 55) dX6_price_55 rfl ?_
              refine jJ_iload_n (pc := 56) dX6_price_56 rfl ?_
              refine jJ_puti (pc := 57) dX6_price_57 fX6_38w rfl ⟨rfl, rfl⟩ (by assumption) ?_
              refine jJ_iload_n (pc := 60) dX6_price_60 rfl ?_
              refine jJ_iretx (pc := 61) dX6_price_61 rfl ⟨by decide, by decide⟩ ?_
              exact ⟨by omega, by (repeat' split) <;> first | rfl | (exfalso; omega), by (repeat' split) <;> first | rfl | (exfalso; omega), rfl⟩
            · refine jJ_aload_n (pc := 47) dX6_price_47 rfl ?_
              refine jJ_iload_n (pc := 48) dX6_price_48 rfl ?_
              refine jJ_puti (pc := 49) dX6_price_49 fX6_35w rfl ⟨rfl, rfl⟩ (by assumption) ?_
              refine jJ_goto (pc := 52) (tgt := 60) dX6_price_52 (by decide) ?_
              refine jJ_iload_n (pc := 60) dX6_price_60 rfl ?_
              refine jJ_iretx (pc := 61) dX6_price_61 rfl ⟨by decide, by decide⟩ ?_
              exact ⟨by omega, by (repeat' split) <;> first | rfl | (exfalso; omega), by (repeat' split) <;> first | rfl | (exfalso; omega), rfl⟩
          · refine jJ_aload_n (pc := 31) dX6_price_31 rfl ?_
            refine jJ_geti (pc := 32) dX6_price_32 fX6_35 rfl (by assumption) ?_
            refine jJ_goto (pc := 35) (tgt := 42) dX6_price_35 (by decide) ?_
            refine jJ_istore_n (pc := 42) (ls' := [_, _, _, _]) dX6_price_42 (Nat.le_of_ble_eq_true rfl) rfl ?_
            refine jJ_iload_n (pc := 43) dX6_price_43 rfl ?_
            refine jJ_if_ne (pc := 44) (tgt := 55) dX6_price_44 (by decide) (fun c44 => ?_) (fun c44 => ?_)
            · refine jJ_aload_n (pc := 55) dX6_price_55 rfl ?_
              refine jJ_iload_n (pc := 56) dX6_price_56 rfl ?_
              refine jJ_puti (pc := 57) dX6_price_57 fX6_38w rfl ⟨rfl, rfl⟩ (by assumption) ?_
              refine jJ_iload_n (pc := 60) dX6_price_60 rfl ?_
              refine jJ_iretx (pc := 61) dX6_price_61 rfl ⟨by decide, by decide⟩ ?_
              exact ⟨by omega, by (repeat' split) <;> first | rfl | (exfalso; omega), by (repeat' split) <;> first | rfl | (exfalso; omega), rfl⟩
            · refine jJ_aload_n (pc := 47) dX6_price_47 rfl ?_
              refine jJ_iload_n (pc := 48) dX6_price_48 rfl ?_
              refine jJ_puti (pc := 49) dX6_price_49 fX6_35w rfl ⟨rfl, rfl⟩ (by assumption) ?_
              refine jJ_goto (pc := 52) (tgt := 60) dX6_price_52 (by decide) ?_
              refine jJ_iload_n (pc := 60) dX6_price_60 rfl ?_
              refine jJ_iretx (pc := 61) dX6_price_61 rfl ⟨by decide, by decide⟩ ?_
              exact ⟨by omega, by (repeat' split) <;> first | rfl | (exfalso; omega), by (repeat' split) <;> first | rfl | (exfalso; omega), rfl⟩
        · refine jJ_throw (pc := 19) hl rfl jth_IAE dX6_price_19 dX6_price_22 dX6_price_23 dX6_price_26 (Nat.le_of_ble_eq_true rfl) (by omega) ⟨by decide, by decide⟩ ?_
          exact ⟨by omega, rfl, rfl, rfl⟩
theorem c_habit {sy : Nat} {hb : Nat → Nat} {k w : Int} (hl : (eX E).stackTraces = false) (h0 : jK E 6 h) (hSy : SyL E P h sy hb) (hd : 6 ≤ d) :
    jCx E yX6_habit cX6_habit 3 (some .int) d 1 [jp h, ji k, ji w] I P (jDc ((0 ≤ k ∧ k ≤ 15) ∧ 0 ≤ w ∧ w ≤ 7) (some (ji (if I h 11 ≠ 0 then habTell I (hb k.toNat) w else -1))) I P) (jXx (¬ ((0 ≤ k ∧ k ≤ 15) ∧ 0 ≤ w ∧ w ≤ 7)) jIAE I P) := by
  obtain ⟨p10, asy, hSs⟩ := hSy
  refine jCx_intro (by decide +kernel) (by simp [jc, va_rf, Value.category]) (Nat.le_of_ble_eq_true rfl) ?_
  have k35 : ((0 ≤ k ∧ k ≤ 15) ∧ 0 ≤ w ∧ w ≤ 7) → I h 11 ≠ 0 → jJ E yX6_habit.cls cX6_habit 3 (some .int) (jRmx d 1) (jZx E (jDc ((0 ≤ k ∧ k ≤ 15) ∧ 0 ≤ w ∧ w ≤ 7) (some (ji (if I h 11 ≠ 0 then habTell I (hb k.toNat) w else -1))) I P) (jXx (¬ ((0 ≤ k ∧ k ≤ 15) ∧ 0 ≤ w ∧ w ≤ 7)) jIAE I P) 1) 0 0 35 [some (jp h), some (ji k), some (ji w)] [] I P := by
    intro hc hs
    obtain ⟨py, ky⟩ := hSs k.toNat (by omega)
    refine jJ_aload_n (pc := 35) dX6_habit_35 rfl ?_
    refine jJ_getr (pc := 36) dX6_habit_36 fX6_49 rfl (by assumption) (by first | exact p10 | exact py) ?_
    refine jJ_iload_n (pc := 39) dX6_habit_39 rfl ?_
    refine jJ_aald (pc := 40) (t0 := 3) dX6_habit_40 asy rfl (by decide) ⟨by omega, by omega⟩ (by first | exact p10 | exact py) ?_
    refine jJ_iload_n (pc := 41) dX6_habit_41 rfl ?_
    refine jJ_callVd (pc := 42) (as := [_]) dX6_habit_42 mX6_184 (jRcv_of (by assumption) rfl rfl) (Nat.le_of_ble_eq_true rfl) (jRmx_ok (by omega) (by decide) (by decide) (by decide)) (c_Habit_tell (d := d - 1) ky) ?_
    refine jJ_goto (pc := 45) (tgt := 49) dX6_habit_45 (by decide) ?_
    refine jJ_iretx (pc := 49) dX6_habit_49 rfl ⟨by decide, by decide⟩ ?_
    exact ⟨by omega, by rw [if_pos hs], rfl, rfl⟩
  refine jJ_iload_n (pc := 0) dX6_habit_0 rfl ?_
  refine jJ_if_lt (pc := 1) (tgt := 20) dX6_habit_1 (by decide) (fun c1 => ?_) (fun c1 => ?_)
  · refine jJ_throw (pc := 20) hl rfl jth_IAE dX6_habit_20 dX6_habit_23 dX6_habit_24 dX6_habit_27 (Nat.le_of_ble_eq_true rfl) (by omega) ⟨by decide, by decide⟩ ?_
    exact ⟨by omega, rfl, rfl, rfl⟩
  · refine jJ_iload_n (pc := 4) dX6_habit_4 rfl ?_
    refine jJ_bipush (pc := 5) dX6_habit_5 (by decide) ?_
    refine jJ_icmp_ge (pc := 7) (tgt := 20) dX6_habit_7 (by decide) (fun c7 => ?_) (fun c7 => ?_)
    · refine jJ_throw (pc := 20) hl rfl jth_IAE dX6_habit_20 dX6_habit_23 dX6_habit_24 dX6_habit_27 (Nat.le_of_ble_eq_true rfl) (by omega) ⟨by decide, by decide⟩ ?_
      exact ⟨by omega, rfl, rfl, rfl⟩
    · refine jJ_iload_n (pc := 10) dX6_habit_10 rfl ?_
      refine jJ_if_lt (pc := 11) (tgt := 20) dX6_habit_11 (by decide) (fun c11 => ?_) (fun c11 => ?_)
      · refine jJ_throw (pc := 20) hl rfl jth_IAE dX6_habit_20 dX6_habit_23 dX6_habit_24 dX6_habit_27 (Nat.le_of_ble_eq_true rfl) (by omega) ⟨by decide, by decide⟩ ?_
        exact ⟨by omega, rfl, rfl, rfl⟩
      · refine jJ_iload_n (pc := 14) dX6_habit_14 rfl ?_
        refine jJ_bipush (pc := 15) dX6_habit_15 (by decide) ?_
        refine jJ_icmp_le (pc := 17) (tgt := 28) dX6_habit_17 (by decide) (fun c17 => ?_) (fun c17 => ?_)
        · refine jJ_aload_n (pc := 28) dX6_habit_28 rfl ?_
          refine jJ_geti (pc := 29) dX6_habit_29 fX6_171 rfl (by assumption) ?_
          refine jJ_if_eq (pc := 32) (tgt := 48) dX6_habit_32 (by decide) (fun c32 => ?_) (fun c32 => ?_)
          · refine jJ_iconst (pc := 48) dX6_habit_48 (by decide) ?_
            refine jJ_iretx (pc := 49) dX6_habit_49 rfl ⟨by decide, by decide⟩ ?_
            exact ⟨by omega, by rw [if_neg (by simp_all)], rfl, rfl⟩
          · exact k35 (by omega) (by assumption)
        · refine jJ_throw (pc := 20) hl rfl jth_IAE dX6_habit_20 dX6_habit_23 dX6_habit_24 dX6_habit_27 (Nat.le_of_ble_eq_true rfl) (by omega) ⟨by decide, by decide⟩ ?_
          exact ⟨by omega, rfl, rfl, rfl⟩
theorem c_told {o r : Nat} {k : Int} {w : List Int × Int} (hl : (eX E).stackTraces = false) (h0 : jK E 6 h) (p12 : P h 12 = some o) (ho : jK E 2 o) (hr : P o 0 = some r) (hra : jAr E 8 r 2000) (hw : w.1.length ≤ 2000) (hd : 6 ≤ d) :
    jCx E yX6_told cX6_told 2 (some .int) d 1 [jp h, ji k] (outM I o r w) P (jDc (-1 ≤ k ∧ k < w.1.length) (some (ji (if k = -1 then (w.1.length : Int) else jAnd (w.1.getD k.toNat 0) 255))) (outM I o r w) P) (jXx (¬ (-1 ≤ k ∧ k < w.1.length)) jNSE (outM I o r w) P) := by
  have hne : o ≠ r := jne ho.2 hra.2.1 (by decide)
  refine jCx_intro (by decide +kernel) (by simp [jc, va_rf, Value.category]) (Nat.le_of_ble_eq_true rfl) ?_
  refine jJ_iload_n (pc := 0) dX6_told_0 rfl ?_
  refine jJ_iconst (pc := 1) dX6_told_1 (by decide) ?_
  refine jJ_icmp_ne (pc := 2) (tgt := 13) dX6_told_2 (by decide) (fun c2 => ?_) (fun c2 => ?_)
  · refine jJ_iload_n (pc := 13) dX6_told_13 rfl ?_
    refine jJ_if_lt (pc := 14) (tgt := 28) dX6_told_14 (by decide) (fun c14 => ?_) (fun c14 => ?_)
    · refine jJ_throw (pc := 28) hl rfl jth_NSE dX6_told_28 dX6_told_31 dX6_told_32 dX6_told_35 (Nat.le_of_ble_eq_true rfl) (by omega) ⟨by decide, by decide⟩ ?_
      exact ⟨by omega, rfl, rfl, rfl⟩
    · refine jJ_iload_n (pc := 17) dX6_told_17 rfl ?_
      refine jJ_aload_n (pc := 18) dX6_told_18 rfl ?_
      refine jJ_getr (pc := 19) dX6_told_19 fX6_56 rfl (by assumption) (by assumption) ?_
      refine jJ_geti (pc := 22) dX6_told_22 fX6_220 rfl (by assumption) ?_
      rw [outM_1]
      refine jJ_icmp_lt (pc := 25) (tgt := 36) dX6_told_25 (by decide) (fun c25 => ?_) (fun c25 => ?_)
      · refine jJ_aload_n (pc := 36) dX6_told_36 rfl ?_
        refine jJ_getr (pc := 37) dX6_told_37 fX6_56 rfl (by assumption) (by assumption) ?_
        refine jJ_getr (pc := 40) dX6_told_40 fX6_244 rfl (by assumption) (by assumption) ?_
        refine jJ_iload_n (pc := 43) dX6_told_43 rfl ?_
        refine jJ_bald (pc := 44) dX6_told_44 hra ⟨by omega, by omega⟩ ?_
        refine jJ_sipush (pc := 45) dX6_told_45 (by decide) ?_
        refine jJ_iand (pc := 48) dX6_told_48 ?_
        refine jJ_iretx (pc := 49) dX6_told_49 rfl ⟨by decide, by decide⟩ ?_
        refine ⟨by omega, ?_, rfl, rfl⟩
        have hk : k.toNat < w.1.length := by omega
        rw [if_neg (by omega)]
        congr 3
        simp [outM, Ne.symm hne, hk]
      · refine jJ_throw (pc := 28) hl rfl jth_NSE dX6_told_28 dX6_told_31 dX6_told_32 dX6_told_35 (Nat.le_of_ble_eq_true rfl) (by omega) ⟨by decide, by decide⟩ ?_
        exact ⟨by omega, rfl, rfl, rfl⟩
  · refine jJ_aload_n (pc := 5) dX6_told_5 rfl ?_
    refine jJ_getr (pc := 6) dX6_told_6 fX6_56 rfl (by assumption) (by assumption) ?_
    refine jJ_geti (pc := 9) dX6_told_9 fX6_220 rfl (by assumption) ?_
    rw [outM_1]
    refine jJ_iretx (pc := 12) dX6_told_12 rfl ⟨by decide, by decide⟩ ?_
    exact ⟨by omega, by rw [if_pos (by omega)], rfl, rfl⟩
end JPub
