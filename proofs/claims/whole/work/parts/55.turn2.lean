section JTurn2
variable {E : jE} {I : jI} {P : jP} {d : Nat} {h : Nat}
/-- what was made of the NAMES ahead of tk lies in l -/
def TnI (J : jI) (q : Nat → Nat) (ms me : Nat) (mk : Int) (l : List Int) (tk : Nat) : Prop := ∀ j, j < tk → J (q 3) j = 1 → 0 ≤ J ms j ∧ J ms j ≤ J me j ∧ J me j ≤ l.length ∧ (l.drop (J ms j).toNat).take (J me j - J ms j).toNat = (made mk (tNm J q j)).1
/-- whether the NAME tk can be turned -/
def okA (mk : Int) (nm : List Int) : Bool := decide ((made mk nm).1.length ≤ 16 ∧ wSoL (made mk nm).1 = 1)
theorem okA_iff {mk : Int} {nm : List Int} : okA mk nm = true ↔ ((made mk nm).1.length ≤ 16 ∧ wSoL (made mk nm).1 = 1) := by unfold okA; exact decide_eq_true_iff
def tnS (m rm o r ms me : Nat) : List Nat := [m, rm, o, r, ms, me]
/-- the rows that turning writes are apart, and apart from a TEXT's -/
def TnD (q : Nat → Nat) (r rm ms me : Nat) : Prop := r ≠ rm ∧ ms ≠ me ∧ ∀ j, j ≤ 7 → q j ≠ r ∧ q j ≠ rm ∧ q j ≠ ms ∧ q j ≠ me
theorem c_turnName {x m rm o r ms me tk : Nat} {q : Nat → Nat} {J : jI} {mk : Int} {l : List Int} (h0 : jK E 6 h) (hm : MkL E P h m rm) (hM : MdL E P h o r ms me) (hx : TxL E P x q) (hD : TnD q r rm ms me) (htk : tk < 200) (hR : TokR2 J q (tk + 1)) (h1 : J (q 3) tk = 1) (hw : outM J o r (l, 0) = J) (hl : l.length + 32 ≤ 2000) (hT : TnI J q ms me mk l tk) (hd : 6 ≤ d) :
    jC E yX6_turnName cX6_turnName 4 (some .boolean) d [jp h, jp x, ji (tk : Int), ji mk] J P (fun v J' P' => P' = P ∧ fr (tnS m rm o r ms me) J J' ∧ if okA mk (tNm J q tk) = true ∧ metB (J (q 3)) (fun j => (made mk (tNm J q j)).1) (tNm J q) tk tk 0 = false then v = some (ji 1) ∧ outM J' o r (l ++ (made mk (tNm J q tk)).1, 0) = J' ∧ TnI J' q ms me mk (l ++ (made mk (tNm J q tk)).1) (tk + 1) else v = some (ji 0)) := by
  have hx0 := hx
  have hM0 := hM
  obtain ⟨g0, ⟨p0, p1, p2, p3, p4, p5, p6, p7⟩, ⟨a0, a1, a2, a3, a4, a5, a6, a7⟩⟩ := hx
  obtain ⟨pm, km, prm, arm⟩ := hm
  obtain ⟨p12, ho, hor, hra, p15, ams, p16, ame⟩ := hM
  obtain ⟨dr, dm, dq⟩ := hD
  have hmr : m ≠ rm := jne km.2 arm.2.1 (by decide)
  have hor' : o ≠ r := jne ho.2 hra.2.1 (by decide)
  have mo : m ≠ o := jne km.2 ho.2 (by decide)
  have mr : m ≠ r := jne km.2 hra.2.1 (by decide)
  have rmo : rm ≠ o := jne arm.2.1 ho.2 (by decide)
  have mms : m ≠ ms := jne km.2 ams.2.1 (by decide)
  have mme : m ≠ me := jne km.2 ame.2.1 (by decide)
  have rms : rm ≠ ms := jne arm.2.1 ams.2.1 (by decide)
  have rme : rm ≠ me := jne arm.2.1 ame.2.1 (by decide)
  have oms : o ≠ ms := jne ho.2 ams.2.1 (by decide)
  have ome : o ≠ me := jne ho.2 ame.2.1 (by decide)
  have rs : r ≠ ms := jne hra.2.1 ams.2.1 (by decide)
  have re : r ≠ me := jne hra.2.1 ame.2.1 (by decide)
  have qm : ∀ j, j ≤ 7 → q j ≠ m := fun j hj => by
    rcases hx0.kq j hj with z | z
    · exact jne z km.2 (by decide)
    · exact jne z km.2 (by decide)
  have qo : ∀ j, j ≤ 7 → q j ≠ o := fun j hj => by
    rcases hx0.kq j hj with z | z
    · exact jne z ho.2 (by decide)
    · exact jne z ho.2 (by decide)
  have rt := hR tk (by omega)
  have qS : ∀ j, j ≤ 7 → q j ∉ tnS m rm o r ms me := fun j hj => by
    obtain ⟨z1, z2, z3, z4⟩ := dq j hj
    simp [tnS, qm j hj, qo j hj, z1, z2, z3, z4]
  have hml := made_len mk (tNm J q tk)
  refine jC_intro (by decide +kernel) (by simp [jc, va_rf, Value.category]) (Nat.le_of_ble_eq_true rfl) ?_
  refine jJ_aload_n (pc := 0) dX6_turnName_0 rfl ?_
  refine jJ_getr (pc := 1) dX6_turnName_1 fX6_66 rfl (by assumption) (by first | exact pm | exact p0 | exact p1) ?_
  refine jJ_aload_n (pc := 4) dX6_turnName_4 rfl ?_
  refine jJ_getr (pc := 5) dX6_turnName_5 fX6_201 rfl (by assumption) (by first | exact pm | exact p0 | exact p1) ?_
  refine jJ_aload_n (pc := 8) dX6_turnName_8 rfl ?_
  refine jJ_getr (pc := 9) dX6_turnName_9 fX6_204 rfl (by assumption) (by first | exact pm | exact p0 | exact p1) ?_
  refine jJ_iload_n (pc := 12) dX6_turnName_12 rfl ?_
  refine jJ_iald (pc := 13) dX6_turnName_13 a1 ⟨by omega, by omega⟩ ?_
  rw [Int.toNat_natCast]
  refine jJ_aload_n (pc := 14) dX6_turnName_14 rfl ?_
  refine jJ_getr (pc := 15) dX6_turnName_15 fX6_207 rfl (by assumption) (by assumption) ?_
  refine jJ_iload_n (pc := 18) dX6_turnName_18 rfl ?_
  refine jJ_iald (pc := 19) dX6_turnName_19 a2 ⟨by omega, by omega⟩ ?_
  refine jJ_iload_n (pc := 20) dX6_turnName_20 rfl ?_
  rw [Int.toNat_natCast]
  refine jJ_callVd (pc := 21) (as := [_, _, _, _]) dX6_turnName_21 mX6_228 (jRcv_of (by assumption) rfl rfl) (Nat.le_of_ble_eq_true rfl) (jRm_ok (by omega) (by decide)) (c_Maker_make (d := d - 1) km prm arm hmr a0 (qm 0 (by decide)) (dq 0 (by decide)).2.1 (by decide) (by omega) (by omega)) ?_
  rw [show min (J (q 2) tk) ((800 : Nat) : Int) - ((J (q 1) tk).toNat : Int) = J (q 2) tk - J (q 1) tk by omega, show rowF (J (q 0)) (J (q 1) tk).toNat (J (q 2) tk - J (q 1) tk).toNat = tNm J q tk from rfl]
  have frm : fr (tnS m rm o r ms me) J (outM J m rm (made mk (tNm J q tk))) := fr_sub fr_out (fun a ha => by simp only [List.mem_cons, List.not_mem_nil, or_false] at ha; rcases ha with rfl | rfl <;> simp [tnS])
  have wso : wSort (outM J m rm (made mk (tNm J q tk)) rm) 32 0 ((made mk (tNm J q tk)).1.length : Int) = wSoL (made mk (tNm J q tk)).1 := wSort_cg (fun j hj => by simp [outM, Ne.symm hmr, hj])
  refine jJ_aload_n (pc := 24) dX6_turnName_24 rfl ?_
  refine jJ_getr (pc := 25) dX6_turnName_25 fX6_66 rfl (by assumption) pm ?_
  refine jJ_geti (pc := 28) dX6_turnName_28 fX6_232 rfl (by assumption) ?_
  rw [outM_1]
  have no : ¬ okA mk (tNm J q tk) = true → jJ E yX6_turnName.cls cX6_turnName 4 (some .boolean) (jRm d) (jZ E (fun v J' P' => P' = P ∧ fr (tnS m rm o r ms me) J J' ∧ if okA mk (tNm J q tk) = true ∧ metB (J (q 3)) (fun j => (made mk (tNm J q j)).1) (tNm J q) tk tk 0 = false then v = some (ji 1) ∧ outM J' o r (l ++ (made mk (tNm J q tk)).1, 0) = J' ∧ TnI J' q ms me mk (l ++ (made mk (tNm J q tk)).1) (tk + 1) else v = some (ji 0))) 0 0 58 [some (jp h), some (jp x), some (ji (tk : Int)), some (ji mk)] [] (outM J m rm (made mk (tNm J q tk))) P := by
    intro hno
    refine jJ_iconst (pc := 58) dX6_turnName_58 (by decide) ?_
    refine jJ_zret (pc := 59) dX6_turnName_59 rfl (by decide) ?_
    exact ⟨rfl, frm, by rw [if_neg (fun z => hno z.1)]⟩
  refine jJ_bipush (pc := 31) dX6_turnName_31 (by decide) ?_
  refine jJ_icmp_gt (pc := 33) (tgt := 58) dX6_turnName_33 (by decide) (fun c33 => ?_) (fun c33 => ?_)
  · exact no (fun z => by have := (okA_iff.mp z).1; omega)
  · refine jJ_aload_n (pc := 36) dX6_turnName_36 rfl ?_
    refine jJ_getr (pc := 37) dX6_turnName_37 fX6_66 rfl (by assumption) (by first | exact pm | exact prm) ?_
    refine jJ_getr (pc := 40) dX6_turnName_40 fX6_233 rfl (by assumption) (by first | exact pm | exact prm) ?_
    refine jJ_iconst (pc := 43) dX6_turnName_43 (by decide) ?_
    refine jJ_aload_n (pc := 44) dX6_turnName_44 rfl ?_
    refine jJ_getr (pc := 45) dX6_turnName_45 fX6_66 rfl (by assumption) (by first | exact pm | exact prm) ?_
    refine jJ_geti (pc := 48) dX6_turnName_48 fX6_232 rfl (by assumption) ?_
    rw [outM_1]
    refine jJ_callSd (pc := 51) (as := [_, _, _]) dX6_turnName_51 mX6_236 (Nat.le_of_ble_eq_true rfl) (jRm_ok (by omega) (by decide)) (c_wordSort (d := d - 1) arm (by decide) ⟨by decide, by decide⟩ ⟨by omega, by omega⟩ (by omega)) ?_
    rw [wso]
    refine jJ_iconst (pc := 54) dX6_turnName_54 (by decide) ?_
    refine jJ_icmp_eq (pc := 55) (tgt := 60) dX6_turnName_55 (by decide) (fun c55 => ?_) (fun c55 => ?_)
    · have hok : okA mk (tNm J q tk) = true := okA_iff.mpr ⟨by omega, c55⟩
      have hwo : outM J o r (l, 0) o 1 = (l.length : Int) := outM_1 _ _ _ _
      rw [hw] at hwo
      refine jJ_aload_n (pc := 60) dX6_turnName_60 rfl ?_
      refine jJ_getr (pc := 61) dX6_turnName_61 fX6_70 rfl (by assumption) (by first | exact p12 | exact p15) ?_
      refine jJ_iload_n (pc := 64) dX6_turnName_64 rfl ?_
      refine jJ_aload_n (pc := 65) dX6_turnName_65 rfl ?_
      refine jJ_getr (pc := 66) dX6_turnName_66 fX6_56 rfl (by assumption) (by first | exact p12 | exact p15) ?_
      refine jJ_geti (pc := 69) dX6_turnName_69 fX6_220 rfl (by assumption) ?_
      rw [outM_x _ _ (Ne.symm mo) (Ne.symm rmo), hwo]
      refine jJ_iast (pc := 72) dX6_turnName_72 ams ⟨by omega, by omega⟩ ?_
      rw [Int.toNat_natCast]
      have e2 : outM (jput (outM J m rm (made mk (tNm J q tk))) ms tk (l.length : Int)) o r (l, 0) = jput (outM J m rm (made mk (tNm J q tk))) ms tk (l.length : Int) := outM_keep hw (by funext k; rw [jput_a _ oms, outM_x _ _ (Ne.symm mo) (Ne.symm rmo)]) (by funext k; rw [jput_a _ rs, outM_x _ _ (Ne.symm mr) dr])
      refine jJ_aload_n (pc := 73) dX6_turnName_73 rfl ?_
      refine jJ_getr (pc := 74) dX6_turnName_74 fX6_56 rfl (by assumption) (by first | exact pm | exact prm | exact p12) ?_
      refine jJ_aload_n (pc := 77) dX6_turnName_77 rfl ?_
      refine jJ_getr (pc := 78) dX6_turnName_78 fX6_66 rfl (by assumption) (by first | exact pm | exact prm | exact p12) ?_
      refine jJ_getr (pc := 81) dX6_turnName_81 fX6_233 rfl (by assumption) (by first | exact pm | exact prm | exact p12) ?_
      refine jJ_iconst (pc := 84) dX6_turnName_84 (by decide) ?_
      refine jJ_aload_n (pc := 85) dX6_turnName_85 rfl ?_
      refine jJ_getr (pc := 86) dX6_turnName_86 fX6_66 rfl (by assumption) pm ?_
      refine jJ_geti (pc := 89) dX6_turnName_89 fX6_232 rfl (by assumption) ?_
      rw [jput_a _ mms, outM_1]
      refine jJ_I e2.symm ?_
      refine jJ_callVd (pc := 92) (as := [_, _, _]) dX6_turnName_92 mX6_210 (jRcv_of (by assumption) rfl rfl) (Nat.le_of_ble_eq_true rfl) (jRm_ok (by omega) (by decide)) (c_Out_putAll (d := d - 1) ho hor hra hor' arm rmo (Ne.symm dr) (by decide) (by decide) (by simp; omega) (by omega)) ?_
      rw [show (min ((made mk (tNm J q tk)).1.length : Int) ((32 : Nat) : Int) - ((0 : Int).toNat : Int)).toNat = (made mk (tNm J q tk)).1.length by simp; omega, show (0 : Int).toNat = 0 from rfl]
      rw [show rowF (jput (outM J m rm (made mk (tNm J q tk))) ms tk (l.length : Int) rm) 0 (made mk (tNm J q tk)).1.length = (made mk (tNm J q tk)).1 by
        rw [show jput (outM J m rm (made mk (tNm J q tk))) ms tk (l.length : Int) rm = outM J m rm (made mk (tNm J q tk)) rm by funext k; exact jput_a _ rms]
        exact rowF_out hmr]
      rw [oall_fit _ _ _ (by omega), made_jB]
      refine jJ_aload_n (pc := 95) dX6_turnName_95 rfl ?_
      refine jJ_getr (pc := 96) dX6_turnName_96 fX6_74 rfl (by assumption) (by first | exact p12 | exact p16) ?_
      refine jJ_iload_n (pc := 99) dX6_turnName_99 rfl ?_
      refine jJ_aload_n (pc := 100) dX6_turnName_100 rfl ?_
      refine jJ_getr (pc := 101) dX6_turnName_101 fX6_56 rfl (by assumption) (by first | exact p12 | exact p16) ?_
      refine jJ_geti (pc := 104) dX6_turnName_104 fX6_220 rfl (by assumption) ?_
      rw [outM_1]
      refine jJ_iast (pc := 107) dX6_turnName_107 ame ⟨by omega, by omega⟩ ?_
      rw [Int.toNat_natCast]
      generalize hJ4 : jput (outM (jput (outM J m rm (made mk (tNm J q tk))) ms tk (l.length : Int)) o r (l ++ (made mk (tNm J q tk)).1, 0)) me tk ((l ++ (made mk (tNm J q tk)).1).length : Int) = J4
      have f4 : fr (tnS m rm o r ms me) J J4 := by
        intro a ha
        simp only [tnS, List.mem_cons, List.not_mem_nil, or_false, not_or] at ha
        obtain ⟨b1, b2, b3, b4, b5, b6⟩ := ha
        funext k
        rw [← hJ4, jput_a _ b6, outM_x _ _ b3 b4, jput_a _ b5, outM_x _ _ b1 b2]
      have o4 : outM J4 o r (l ++ (made mk (tNm J q tk)).1, 0) = J4 := by
        have z : ∀ K : jI, outM (outM K o r (l ++ (made mk (tNm J q tk)).1, 0)) o r (l ++ (made mk (tNm J q tk)).1, 0) = outM K o r (l ++ (made mk (tNm J q tk)).1, 0) := fun K => outM_outM K _ _ hor' (Nat.le_refl _)
        exact outM_keep (z _) (by rw [← hJ4]; funext k; exact jput_a _ ome) (by rw [← hJ4]; funext k; exact jput_a _ re)
      have s4 : ∀ j, j ≠ tk → J4 ms j = J ms j ∧ J4 me j = J me j := by
        intro j hj
        constructor
        · rw [← hJ4, jput_a _ dm, outM_x _ _ (Ne.symm oms) (Ne.symm rs), jput_k _ hj, outM_x _ _ (Ne.symm mms) (Ne.symm rms)]
        · rw [← hJ4, jput_k _ hj, outM_x _ _ (Ne.symm ome) (Ne.symm re), jput_a _ (Ne.symm dm), outM_x _ _ (Ne.symm mme) (Ne.symm rme)]
      have s5 : J4 ms tk = (l.length : Int) ∧ J4 me tk = ((l ++ (made mk (tNm J q tk)).1).length : Int) := by
        constructor
        · rw [← hJ4, jput_a _ dm, outM_x _ _ (Ne.symm oms) (Ne.symm rs), jput_s]
        · rw [← hJ4, jput_s]
      have nm4 : ∀ j, tNm J4 q j = tNm J q j := fun j => tNm_fr f4 (qS 0 (by decide)) (qS 1 (by decide)) (qS 2 (by decide)) j
      have g3 : J4 (q 3) = J (q 3) := f4 _ (qS 3 (by decide))
      have hT4 : TnI J4 q ms me mk (l ++ (made mk (tNm J q tk)).1) (tk + 1) := by
        intro j hj hj1
        rw [g3] at hj1
        rw [nm4]
        by_cases hjt : j = tk
        · subst hjt
          rw [s5.1, s5.2]
          refine ⟨by omega, by rw [List.length_append]; omega, by omega, ?_⟩
          rw [Int.toNat_natCast, List.drop_left, show (((l ++ (made mk (tNm J q j)).1).length : Int) - (l.length : Int)).toNat = (made mk (tNm J q j)).1.length by rw [List.length_append]; omega]
          exact List.take_length
        · obtain ⟨b1, b2, b3, b4⟩ := hT j (by omega) hj1
          rw [(s4 j hjt).1, (s4 j hjt).2]
          refine ⟨b1, b2, by simp; omega, ?_⟩
          rw [List.drop_append_of_le_length (by omega), List.take_append_of_le_length (by simp; omega)]
          exact b4
      have hlen4 : ((l ++ (made mk (tNm J q tk)).1).length : Int) ≤ 2000 := by simp; omega
      have cm := c_meets (E := E) (P := P) (d := d - 1) (h := h) (x := x) (o := o) (r := r) (ms := ms) (me := me) (tk := tk) (q := q) (J := J4) h0 hM0 hx0 htk (by unfold TokR2; rw [f4 _ (qS 1 (by decide)), f4 _ (qS 2 (by decide))]; exact hR) (fun j hj hj1 => by obtain ⟨b1, b2, b3, b4⟩ := hT4 j (by omega) hj1; exact ⟨b1, b2, by omega⟩) (by rw [g3]; exact h1) (by omega)
      have em : metB (J4 (q 3)) (sgO J4 r ms me) (tNm J4 q) tk tk 0 = metB (J (q 3)) (fun j => (made mk (tNm J q j)).1) (tNm J q) tk tk 0 := by
        refine metB_cg tk 0 (by omega) (fun j hj => by rw [g3]) (fun j hj hj1 => ?_) (fun j hj => nm4 j) (by rw [g3]; exact h1)
        obtain ⟨b1, b2, b3, b4⟩ := hT4 j (by omega) hj1
        unfold sgO
        rw [rowF_take (l := l ++ (made mk (tNm J q tk)).1) (fun k hk => outM_row hor' o4 hk) (by omega), b4, nm4]
      rw [em] at cm
      refine jJ_aload_n (pc := 108) dX6_turnName_108 rfl ?_
      refine jJ_aload_n (pc := 109) dX6_turnName_109 rfl ?_
      refine jJ_iload_n (pc := 110) dX6_turnName_110 rfl ?_
      refine jJ_callVd (pc := 111) (as := [_, _]) dX6_turnName_111 mX6_240 (jRcv_of (by assumption) rfl rfl) (Nat.le_of_ble_eq_true rfl) (jRm_ok (by omega) (by decide)) (cm) ?_
      refine jJ_if_ne (pc := 114) (tgt := 121) dX6_turnName_114 (by decide) (fun c114 => ?_) (fun c114 => ?_)
      · simp only [jb_nz] at c114
        refine jJ_iconst (pc := 121) dX6_turnName_121 (by decide) ?_
        refine jJ_zret (pc := 122) dX6_turnName_122 rfl (by decide) ?_
        exact ⟨rfl, f4, by rw [if_neg (fun z => by rw [z.2] at c114; cases c114)]⟩
      · simp only [jb_z] at c114
        refine jJ_iconst (pc := 117) dX6_turnName_117 (by decide) ?_
        refine jJ_goto (pc := 118) (tgt := 122) dX6_turnName_118 (by decide) ?_
        refine jJ_zret (pc := 122) dX6_turnName_122 rfl (by decide) ?_
        exact ⟨rfl, f4, by rw [if_pos ⟨hok, by simpa using c114⟩]; exact ⟨rfl, o4, hT4⟩⟩
    · exact no (fun z => c55 (okA_iff.mp z).2)
end JTurn2
