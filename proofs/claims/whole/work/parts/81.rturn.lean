section JRU
variable {E : jE} {I : jI} {P : jP} {d m t i : Nat} {a : Nat → Nat} {x : TX}
/-- whether the NAME i can be turned -/
def okN (x : TX) (mk : Int) (i : Nat) : Bool := okA mk (xNm x i) && !(metB (xSg x) (fun j => (made mk (xNm x j)).1) (xNm x) i i 0)
def okAll (x : TX) (mk : Int) : Nat → Nat → Bool
  | 0, _ => true
  | k + 1, i => if xSg x i = 1 then (okN x mk i && okAll x mk k (i + 1)) else okAll x mk k (i + 1)
/-- how much longer the NAMES become -/
def dltX (x : TX) (mk : Int) : Nat → Nat → Int
  | 0, _ => 0
  | k + 1, i => (if xSg x i = 1 then ((made mk (xNm x i)).1.length : Int) - ((xNm x i).length : Int) else 0) + dltX x mk k (i + 1)
theorem xNm_len (x : TX) (i : Nat) : (xNm x i).length = (xEn x i - xSt x i).toNat := by unfold xNm; exact rowF_len _ _
/-- what a NAME is made to has a PART, and begins with a letter -/
theorem mput_hd {w : List Int × Int} {b : Int} (h : w.1 ≠ []) : (mput w b).1.getD 0 0 = w.1.getD 0 0 ∧ (mput w b).1 ≠ [] := by
  unfold mput
  split
  · cases hw : w.1 with
    | nil => exact absurd hw h
    | cons c l => simp
  · exact ⟨rfl, h⟩
theorem spart_hd {w : List Int × Int} {b mk : Int} (h : w.1 ≠ []) : (spart w b mk).1.getD 0 0 = w.1.getD 0 0 ∧ (spart w b mk).1 ≠ [] := by
  unfold spart
  split
  · exact mput_hd (w := (w.1, w.2 + 1)) h
  · split
    · have h1 := mput_hd (w := (w.1, w.2 + 1)) (b := 95) h
      have h2 := mput_hd (w := mput (w.1, w.2 + 1) 95) (b := smallOf b) h1.2
      exact ⟨h2.1.trans h1.1, h2.2⟩
    · exact mput_hd (w := (w.1, w.2 + 1)) h
theorem mrun_hd (mk : Int) : ∀ (bs : List Int) (q : (List Int × Int) × Int), q.1.1 ≠ [] → (mrun mk q bs).1.1.getD 0 0 = q.1.1.getD 0 0 ∧ (mrun mk q bs).1.1 ≠ []
  | [], q, h => ⟨rfl, h⟩
  | b :: t, q, h => by
    have e : (mstep mk q b).1.1.getD 0 0 = q.1.1.getD 0 0 ∧ (mstep mk q b).1.1 ≠ [] := by
      unfold mstep
      split
      · exact ⟨rfl, h⟩
      · split
        · exact spart_hd h
        · exact mput_hd h
    have h2 := mrun_hd mk t (mstep mk q b) e.2
    exact ⟨h2.1.trans e.1, h2.2⟩
theorem made_hd {mk b : Int} {bs : List Int} (hb : isLtB b = true) : (made mk (b :: bs)).1 ≠ [] ∧ ¬ (48 ≤ (made mk (b :: bs)).1.getD 0 0 ∧ (made mk (b :: bs)).1.getD 0 0 ≤ 57) := by
  unfold isLtB at hb
  rw [decide_eq_true_iff] at hb
  have hs : 97 ≤ smallOf b ∧ smallOf b ≤ 122 := by unfold smallOf; split <;> omega
  have e : mstep mk (([], 0), 1) b = (([smallOf b], 1), 0) := by
    unfold mstep
    rw [if_neg (by omega), if_pos (Or.inl (by decide))]
    unfold spart
    rw [if_pos (by rfl), mput_in (by decide) (by omega)]
    rfl
  have h := mrun_hd mk bs (([smallOf b], 1), 0) (by simp)
  unfold made mrun
  rw [List.foldl_cons, e]
  refine ⟨h.2, ?_⟩
  have h1 : (mrun mk (([smallOf b], 1), 0) bs).1.1.getD 0 0 = smallOf b := h.1
  unfold mrun at h1
  rw [h1]
  omega
theorem WX.name (h : WX x) (hi : i < (xT x).length) (h1 : xSg x i = 1) (mk : Int) : (made mk (xNm x i)).1 ≠ [] ∧ ¬ (48 ≤ (made mk (xNm x i)).1.getD 0 0 ∧ (made mk (xNm x i)).1.getD 0 0 ≤ 57) := by
  have t1 := (h.tk hi).1
  obtain ⟨⟨j, e1, e2, e3, e8, e7, -⟩, -⟩ := h.2.2.2.2.1 i hi
  have hs : xSt x i = (tkS (xF x) (xN x) j : Int) := e1
  have hg : tkG (xF x) (xN x) j = 1 := by rw [← e3]; exact h1
  have hin := tk_in e8
  have hl : isLtB (xF x (tkS (xF x) (xN x) j)) = true := by
    rw [tkG, if_neg (by omega)] at hg
    by_cases q : isLtB (xF x (tkS (xF x) (xN x) j)) = true
    · exact q
    · rw [if_neg q] at hg
      split at hg
      · exact absurd hg (by decide)
      · split at hg
        · next z => unfold isSgB at z; rw [decide_eq_true_iff] at z; omega
        · exact absurd hg (by decide)
  have e : xNm x i = xF x (xSt x i).toNat :: rowF (xF x) ((xSt x i).toNat + 1) ((xEn x i - xSt x i).toNat - 1) := by
    unfold xNm
    obtain ⟨k, hk⟩ : ∃ k, (xEn x i - xSt x i).toNat = k + 1 := ⟨(xEn x i - xSt x i).toNat - 1, by omega⟩
    rw [hk]
    rfl
  rw [e]
  exact made_hd (by rw [hs, Int.toNat_natCast]; exact hl)
theorem wSoL_1 {l : List Int} : wSoL l = 1 ↔ ∀ q, q < 4 → ¬ isKw (fun k => l.getD k 0) 32 q 0 (l.length : Int) = true := by
  constructor
  · intro h q hq hk
    have := (wSort_kw (f := fun k => l.getD k 0) (k := 32) (x := 0) (y := (l.length : Int)) hq).mpr hk
    unfold wSoL at h
    omega
  · intro h
    unfold wSoL wSort
    rw [if_neg (h 0 (by decide)), if_neg (h 1 (by decide)), if_neg (h 2 (by decide)), if_neg (h 3 (by decide))]
theorem okA_spec {mk : Int} {nm : List Int} : okA mk nm = true ↔ (made mk nm).1.length ≤ 16 ∧ ∀ q, q < 4 → ¬ isKw (fun k => (made mk nm).1.getD k 0) 32 q 0 ((made mk nm).1.length : Int) = true := by
  rw [okA_iff, wSoL_1]
theorem turn_lp1 {B : jI} {mk : Int} {z6 z7 : Option jV} {n : Nat} {Z : Code → List Frame → Array Value → State → State → Prop} (hR : RfL E P m a) (hT : RT B a t x) (hW : WX x) (ht : t < 12) (hn : n = (xT x).length) (hm : mk = 0 ∨ mk = 1) (hd : 7 ≤ d) :
    ∀ (r i : Nat) (al : Int) (J : jI), i + r = n → -40000 ≤ al + 40 * i → al ≤ 40000 + 40 * i → mF B m a J → (∀ J' z, mF B m a J' → okAll x mk r i = true → jJ E yX7_turn.cls cX7_turn 8 (some .int) (jRm d) Z 0 0 206 [some (jp m), some (ji (t : Int)), some (ji mk), some (ji 1), some (ji (al + dltX x mk r i)), z, z6, z7] [] J' P) → (∀ J' al' z, mF B m a J' → okAll x mk r i = false → jJ E yX7_turn.cls cX7_turn 8 (some .int) (jRm d) Z 0 0 206 [some (jp m), some (ji (t : Int)), some (ji mk), some (ji 0), some (ji al'), z, z6, z7] [] J' P) → jJ E yX7_turn.cls cX7_turn 8 (some .int) (jRm d) Z 0 0 50 [some (jp m), some (ji (t : Int)), some (ji mk), some (ji 1), some (ji al), some (ji (i : Int)), z6, z7] [] J P := by
  have l1 := hW.2.2.2.1
  intro r
  induction r with
  | zero =>
    intro i al J hi h1 h2 hJ kk1 kk0
    have e9 : J (a 9) ((t : Int).toNat) = ((xT x).length : Int) := by rw [Int.toNat_natCast]; exact (hJ.rt hR hT).2.2.1
    refine jJ_iload (pc := 50) dX7_turn_50 rfl ?_
    refine jJ_aload_n (pc := 52) dX7_turn_52 rfl ?_
    refine jJ_getr (pc := 53) dX7_turn_53 fX7_30 rfl hR.1 hR.p9 ?_
    try simp only [e9]
    refine jJ_iload_n (pc := 56) dX7_turn_56 rfl ?_
    refine jJ_iald (pc := 57) dX7_turn_57 hR.a9 ⟨by omega, by omega⟩ ?_
    try simp only [e9]
    refine jJ_icmp_ge (pc := 58) (tgt := 206) dX7_turn_58 (by decide) (fun c58 => ?_) (fun c58 => ?_)
    · have := kk1 J (some (ji (i : Int))) hJ rfl
      rw [dltX, Int.add_zero] at this
      exact this
    · exfalso
      omega
  | succ r ih =>
    intro i al J hi h1 h2 hJ kk1 kk0
    have hTJ := hJ.rt hR hT
    have e9 : J (a 9) ((t : Int).toNat) = ((xT x).length : Int) := by rw [Int.toNat_natCast]; exact hTJ.2.2.1
    have nl := xNm_len x i
    have tk := hW.tk (i := i) (by omega)
    have ml := made_len mk (xNm x i)
    refine jJ_iload (pc := 50) dX7_turn_50 rfl ?_
    refine jJ_aload_n (pc := 52) dX7_turn_52 rfl ?_
    refine jJ_getr (pc := 53) dX7_turn_53 fX7_30 rfl hR.1 hR.p9 ?_
    try simp only [e9]
    refine jJ_iload_n (pc := 56) dX7_turn_56 rfl ?_
    refine jJ_iald (pc := 57) dX7_turn_57 hR.a9 ⟨by omega, by omega⟩ ?_
    try simp only [e9]
    refine jJ_icmp_ge (pc := 58) (tgt := 206) dX7_turn_58 (by decide) (fun c58 => ?_) (fun c58 => ?_)
    · exfalso
      omega
    · refine jJ_iload_n (pc := 61) dX7_turn_61 rfl ?_
      refine jJ_if_eq (pc := 62) (tgt := 206) dX7_turn_62 (by decide) (fun c62 => ?_) (fun c62 => ?_)
      · exact absurd c62 (by decide)
      · refine jJ_aload_n (pc := 65) dX7_turn_65 rfl ?_
        refine jJ_iload_n (pc := 66) dX7_turn_66 rfl ?_
        refine jJ_iload (pc := 67) dX7_turn_67 rfl ?_
        refine jJ_callVd (pc := 69) (as := [_, _]) dX7_turn_69 mX7_293 (jRcv_of hR.1 rfl rfl) (Nat.le_of_ble_eq_true rfl) (jRm_ok (by omega) (by decide)) (x_isNameAt (d := d - 1) hR hTJ hW ht (by omega) (by omega)) ?_
        refine jJ_if_ne (pc := 72) (tgt := 78) dX7_turn_72 (by decide) (fun c72 => ?_) (fun c72 => ?_)
        · simp only [jb_nz] at c72
          have t16 := tk.2.2.1 c72
          have hnm := hW.name (i := i) (by omega) c72 mk
          refine jJ_aload_n (pc := 78) dX7_turn_78 rfl ?_
          refine jJ_iload_n (pc := 79) dX7_turn_79 rfl ?_
          refine jJ_iload (pc := 80) dX7_turn_80 rfl ?_
          refine jJ_iload_n (pc := 82) dX7_turn_82 rfl ?_
          refine jJ_callV (pc := 83) (as := [_, _, _]) dX7_turn_83 mX7_300 (jRcv_of hR.1 rfl rfl) (Nat.le_of_ble_eq_true rfl) (jRm_ok (by omega) (by decide)) (x_isTaken (d := d - 1) hR hTJ hW ht (by omega) c72 hm (by omega)) ?_
          rintro v1 J1 P1 ⟨hP1, f1, rfl⟩
          rw [hP1]
          have hJ1 := hJ.tr f1
          have hT1 := hJ1.rt hR hT
          have good : ∀ J', mF B m a J' → okN x mk i = true → jJ E yX7_turn.cls cX7_turn 8 (some .int) (jRm d) Z 0 0 200 [some (jp m), some (ji (t : Int)), some (ji mk), some (ji 1), some (ji (al + (((made mk (xNm x i)).1.length : Int) - ((xNm x i).length : Int)))), some (ji (i : Int)), z6, z7] [] J' P := by
            intro J' hJ' hok
            refine jJ_iinc (pc := 200) (ls' := [_, _, _, _, _, _, _, _]) dX7_turn_200 rfl ⟨by omega, by omega⟩ rfl ?_
            refine jJ_goto (pc := 203) (tgt := 50) dX7_turn_203 (by decide) ?_
            refine ih (i + 1) _ J' (by omega) (by omega) (by omega) hJ' (fun J2 z h2 ho => ?_) (fun J2 al' z h2 ho => kk0 J2 al' z h2 (by rw [okAll, if_pos c72, hok, ho]; rfl))
            have := kk1 J2 z h2 (by rw [okAll, if_pos c72, hok, ho]; rfl)
            rw [dltX, if_pos c72, ← Int.add_assoc] at this
            exact this
          have bad : ∀ J' al', mF B m a J' → -100000 ≤ al' → al' ≤ 100000 → okN x mk i = false → jJ E yX7_turn.cls cX7_turn 8 (some .int) (jRm d) Z 0 0 198 [some (jp m), some (ji (t : Int)), some (ji mk), some (ji 0), some (ji al'), some (ji (i : Int)), z6, z7] [] J' P := by
            intro J' al' hJ' _ _ hok
            have e9' : J' (a 9) ((t : Int).toNat) = ((xT x).length : Int) := by rw [Int.toNat_natCast]; exact (hJ'.rt hR hT).2.2.1
            refine jJ_iconst (pc := 198) dX7_turn_198 (by decide) ?_
            refine jJ_istore_n (pc := 199) (ls' := [_, _, _, _, _, _, _, _]) dX7_turn_199 (Nat.le_of_ble_eq_true rfl) rfl ?_
            refine jJ_iinc (pc := 200) (ls' := [_, _, _, _, _, _, _, _]) dX7_turn_200 rfl ⟨by omega, by omega⟩ rfl ?_
            refine jJ_goto (pc := 203) (tgt := 50) dX7_turn_203 (by decide) ?_
            refine jJ_iload (pc := 50) dX7_turn_50 rfl ?_
            refine jJ_aload_n (pc := 52) dX7_turn_52 rfl ?_
            refine jJ_getr (pc := 53) dX7_turn_53 fX7_30 rfl hR.1 hR.p9 ?_
            try simp only [e9']
            refine jJ_iload_n (pc := 56) dX7_turn_56 rfl ?_
            refine jJ_iald (pc := 57) dX7_turn_57 hR.a9 ⟨by omega, by omega⟩ ?_
            try simp only [e9']
            refine jJ_icmp_ge (pc := 58) (tgt := 206) dX7_turn_58 (by decide) (fun c58 => ?_) (fun c58 => ?_)
            · exact kk0 J' al' _ hJ' (by rw [okAll, if_pos c72, hok]; rfl)
            · refine jJ_iload_n (pc := 61) dX7_turn_61 rfl ?_
              refine jJ_if_eq (pc := 62) (tgt := 206) dX7_turn_62 (by decide) (fun c62 => ?_) (fun c62 => ?_)
              · exact kk0 J' al' _ hJ' (by rw [okAll, if_pos c72, hok]; rfl)
              · exact absurd rfl c62
          have bad1 : ∀ J' al', mF B m a J' → -100000 ≤ al' → al' ≤ 100000 → okN x mk i = false → jJ E yX7_turn.cls cX7_turn 8 (some .int) (jRm d) Z 0 0 198 [some (jp m), some (ji (t : Int)), some (ji mk), some (ji 1), some (ji al'), some (ji (i : Int)), z6, z7] [] J' P := by
            intro J' al' hJ' _ _ hok
            have e9' : J' (a 9) ((t : Int).toNat) = ((xT x).length : Int) := by rw [Int.toNat_natCast]; exact (hJ'.rt hR hT).2.2.1
            refine jJ_iconst (pc := 198) dX7_turn_198 (by decide) ?_
            refine jJ_istore_n (pc := 199) (ls' := [_, _, _, _, _, _, _, _]) dX7_turn_199 (Nat.le_of_ble_eq_true rfl) rfl ?_
            refine jJ_iinc (pc := 200) (ls' := [_, _, _, _, _, _, _, _]) dX7_turn_200 rfl ⟨by omega, by omega⟩ rfl ?_
            refine jJ_goto (pc := 203) (tgt := 50) dX7_turn_203 (by decide) ?_
            refine jJ_iload (pc := 50) dX7_turn_50 rfl ?_
            refine jJ_aload_n (pc := 52) dX7_turn_52 rfl ?_
            refine jJ_getr (pc := 53) dX7_turn_53 fX7_30 rfl hR.1 hR.p9 ?_
            try simp only [e9']
            refine jJ_iload_n (pc := 56) dX7_turn_56 rfl ?_
            refine jJ_iald (pc := 57) dX7_turn_57 hR.a9 ⟨by omega, by omega⟩ ?_
            try simp only [e9']
            refine jJ_icmp_ge (pc := 58) (tgt := 206) dX7_turn_58 (by decide) (fun c58 => ?_) (fun c58 => ?_)
            · exact kk0 J' al' _ hJ' (by rw [okAll, if_pos c72, hok]; rfl)
            · refine jJ_iload_n (pc := 61) dX7_turn_61 rfl ?_
              refine jJ_if_eq (pc := 62) (tgt := 206) dX7_turn_62 (by decide) (fun c62 => ?_) (fun c62 => ?_)
              · exact kk0 J' al' _ hJ' (by rw [okAll, if_pos c72, hok]; rfl)
              · exact absurd rfl c62
          have f2 : mF J1 m a (mdM J1 m a (made mk (xNm x i))) := mF.md hR
          have hM : MdI (mdM J1 m a (made mk (xNm x i))) m a (made mk (xNm x i)) := MdI.of hR
          have two : ∀ fl : Int, (fl = 0 ∨ fl = 1) → fl = jb (¬ metB (xSg x) (fun j => (made mk (xNm x j)).1) (xNm x) i i 0 = true) → jJ E yX7_turn.cls cX7_turn 8 (some .int) (jRm d) Z 0 0 94 [some (jp m), some (ji (t : Int)), some (ji mk), some (ji 1), some (ji al), some (ji (i : Int)), z6, z7] [ji fl] J1 P := by
            intro fl hfl01 hfl
            refine jJ_istore_n (pc := 94) (ls' := [_, _, _, _, _, _, _, _]) dX7_turn_94 (Nat.le_of_ble_eq_true rfl) rfl ?_
            refine jJ_aload_n (pc := 95) dX7_turn_95 rfl ?_
            refine jJ_iload_n (pc := 96) dX7_turn_96 rfl ?_
            refine jJ_iload (pc := 97) dX7_turn_97 rfl ?_
            refine jJ_iload_n (pc := 99) dX7_turn_99 rfl ?_
            refine jJ_callVd (pc := 100) (as := [_, _, _]) dX7_turn_100 mX7_289 (jRcv_of hR.1 rfl rfl) (Nat.le_of_ble_eq_true rfl) (jRm_ok (by omega) (by decide)) (x_makes (d := d - 1) hR hT1 hW ht (by omega) c72 hm (by omega)) ?_
            generalize mdM J1 m a (made mk (xNm x i)) = J2 at *
            have hJ2 := hJ1.tr f2
            have hT2 := hJ2.rt hR hT
            have e12 : J2 (a 12) (201 * (t : Int) + (i : Int)).toNat = ((xNm x i).length : Int) := by rw [hT2.g12n hW (by omega), nl]
            have e0 : J2 (a 32) ((0 : Int).toNat) = (made mk (xNm x i)).1.getD 0 0 := hM.2.2 0 (by cases hq : (made mk (xNm x i)).1 with | nil => exact absurd hq hnm.1 | cons c l => simp)
            refine jJ_iload (pc := 103) dX7_turn_103 rfl ?_
            refine jJ_aload_n (pc := 105) dX7_turn_105 rfl ?_
            refine jJ_geti (pc := 106) dX7_turn_106 fX7_273 rfl hR.1 ?_
            try simp only [hM.1, e12]
            refine jJ_aload_n (pc := 109) dX7_turn_109 rfl ?_
            refine jJ_getr (pc := 110) dX7_turn_110 fX7_39 rfl hR.1 hR.p12 ?_
            try simp only [hM.1, e12]
            refine jJ_sipush (pc := 113) dX7_turn_113 (by decide) ?_
            refine jJ_iload_n (pc := 116) dX7_turn_116 rfl ?_
            refine jJ_imul (pc := 117) dX7_turn_117 ⟨by omega, by omega⟩ ?_
            refine jJ_iload (pc := 118) dX7_turn_118 rfl ?_
            refine jJ_iadd (pc := 120) dX7_turn_120 ⟨by omega, by omega⟩ ?_
            refine jJ_iald (pc := 121) dX7_turn_121 hR.a12 ⟨by omega, by omega⟩ ?_
            try simp only [hM.1, e12]
            refine jJ_isub (pc := 122) dX7_turn_122 ⟨by omega, by omega⟩ ?_
            refine jJ_iadd (pc := 123) dX7_turn_123 ⟨by omega, by omega⟩ ?_
            refine jJ_istore (pc := 124) (ls' := [_, _, _, _, _, _, _, _]) dX7_turn_124 (Nat.le_of_ble_eq_true rfl) rfl ?_
            have okf : (∃ q, q < 4 ∧ isKw (fun k => (made mk (xNm x i)).1.getD k 0) 32 q 0 ((made mk (xNm x i)).1.length : Int) = true) → okN x mk i = false := by
              rintro ⟨q, hq, hk⟩
              unfold okN
              have : okA mk (xNm x i) = false := by
                cases ho : okA mk (xNm x i) with
                | false => rfl
                | true => exact absurd hk ((okA_spec.mp ho).2 q hq)
              rw [this]; rfl
            refine jJ_iload_n (pc := 126) dX7_turn_126 rfl ?_
            refine jJ_if_eq (pc := 127) (tgt := 198) dX7_turn_127 (by decide) (fun c127 => ?_) (fun c127 => ?_)
            · have hmet := jb_z.mp (hfl.symm.trans c127)
              have e : fl = 0 := c127
              subst e
              refine bad J2 _ hJ2 (by omega) (by omega) ?_
              unfold okN
              rw [Decidable.not_not.mp hmet]
              simp
            · have e : fl = 1 := by omega
              subst e
              have hmet := jb_nz.mp (show jb (¬ metB (xSg x) (fun j => (made mk (xNm x j)).1) (xNm x) i i 0 = true) ≠ 0 by rw [← hfl]; decide)
              refine jJ_aload_n (pc := 130) dX7_turn_130 rfl ?_
              refine jJ_geti (pc := 131) dX7_turn_131 fX7_273 rfl hR.1 ?_
              try simp only [hM.1]
              refine jJ_bipush (pc := 134) dX7_turn_134 (by decide) ?_
              refine jJ_icmp_gt (pc := 136) (tgt := 198) dX7_turn_136 (by decide) (fun c136 => ?_) (fun c136 => ?_)
              · refine bad1 J2 _ hJ2 (by omega) (by omega) ?_
                unfold okN
                have : okA mk (xNm x i) = false := by
                  cases ho : okA mk (xNm x i) with
                  | false => rfl
                  | true => have := (okA_spec.mp ho).1; omega
                rw [this]; rfl
              · refine jJ_aload_n (pc := 139) dX7_turn_139 rfl ?_
                refine jJ_geti (pc := 140) dX7_turn_140 fX7_273 rfl hR.1 ?_
                try simp only [hM.1]
                refine jJ_if_le (pc := 143) (tgt := 198) dX7_turn_143 (by decide) (fun c143 => ?_) (fun c143 => ?_)
                · exfalso
                  cases hq : (made mk (xNm x i)).1 with
                  | nil => exact hnm.1 hq
                  | cons c l => rw [hq] at c143; simp at c143; omega
                · refine jJ_aload_n (pc := 146) dX7_turn_146 rfl ?_
                  refine jJ_getr (pc := 147) dX7_turn_147 fX7_72 rfl hR.1 hR.p32 ?_
                  try simp only [e0]
                  refine jJ_iconst (pc := 150) dX7_turn_150 (by decide) ?_
                  refine jJ_iald (pc := 151) dX7_turn_151 hR.a32 ⟨by omega, by omega⟩ ?_
                  try simp only [e0]
                  refine jJ_callSd (pc := 152) (as := [_]) dX7_turn_152 mX7_108 (Nat.le_of_ble_eq_true rfl) (jRm_ok (by omega) (by decide)) (r_isDigit (d := d - 1)) ?_
                  rw [← jb_f hnm.2]
                  refine jJ_if_ne (pc := 155) (tgt := 198) dX7_turn_155 (by decide) (fun c155 => ?_) (fun c155 => ?_)
                  · exact absurd rfl c155
                  · refine jJ_aload_n (pc := 158) dX7_turn_158 rfl ?_
                    refine jJ_ldcS (pc := 159) (i := 0) dX7_turn_159 (by decide +kernel) ?_
                    refine jJ_callVd (pc := 161) (as := [_]) dX7_turn_161 mX7_303 (jRcv_of hR.1 rfl rfl) (Nat.le_of_ble_eq_true rfl) (jRm_ok (by omega) (by decide)) (x_isMade (d := d - 1) hR hM ml (by decide) (by omega)) ?_
                    refine jJ_if_ne (pc := 164) (tgt := 198) dX7_turn_164 (by decide) (fun c164 => ?_) (fun c164 => ?_)
                    · exact bad1 J2 _ hJ2 (by omega) (by omega) (okf ⟨0, by decide, jb_nz.mp c164⟩)
                    · refine jJ_aload_n (pc := 167) dX7_turn_167 rfl ?_
                      refine jJ_ldcS (pc := 168) (i := 1) dX7_turn_168 (by decide +kernel) ?_
                      refine jJ_callVd (pc := 170) (as := [_]) dX7_turn_170 mX7_303 (jRcv_of hR.1 rfl rfl) (Nat.le_of_ble_eq_true rfl) (jRm_ok (by omega) (by decide)) (x_isMade (d := d - 1) hR hM ml (by decide) (by omega)) ?_
                      refine jJ_if_ne (pc := 173) (tgt := 198) dX7_turn_173 (by decide) (fun c173 => ?_) (fun c173 => ?_)
                      · exact bad1 J2 _ hJ2 (by omega) (by omega) (okf ⟨1, by decide, jb_nz.mp c173⟩)
                      · refine jJ_aload_n (pc := 176) dX7_turn_176 rfl ?_
                        refine jJ_ldcS (pc := 177) (i := 2) dX7_turn_177 (by decide +kernel) ?_
                        refine jJ_callVd (pc := 179) (as := [_]) dX7_turn_179 mX7_303 (jRcv_of hR.1 rfl rfl) (Nat.le_of_ble_eq_true rfl) (jRm_ok (by omega) (by decide)) (x_isMade (d := d - 1) hR hM ml (by decide) (by omega)) ?_
                        refine jJ_if_ne (pc := 182) (tgt := 198) dX7_turn_182 (by decide) (fun c182 => ?_) (fun c182 => ?_)
                        · exact bad1 J2 _ hJ2 (by omega) (by omega) (okf ⟨2, by decide, jb_nz.mp c182⟩)
                        · refine jJ_aload_n (pc := 185) dX7_turn_185 rfl ?_
                          refine jJ_ldcS (pc := 186) (i := 3) dX7_turn_186 (by decide +kernel) ?_
                          refine jJ_callVd (pc := 188) (as := [_]) dX7_turn_188 mX7_303 (jRcv_of hR.1 rfl rfl) (Nat.le_of_ble_eq_true rfl) (jRm_ok (by omega) (by decide)) (x_isMade (d := d - 1) hR hM ml (by decide) (by omega)) ?_
                          refine jJ_if_ne (pc := 191) (tgt := 198) dX7_turn_191 (by decide) (fun c191 => ?_) (fun c191 => ?_)
                          · exact bad1 J2 _ hJ2 (by omega) (by omega) (okf ⟨3, by decide, jb_nz.mp c191⟩)
                          · refine jJ_iconst (pc := 194) dX7_turn_194 (by decide) ?_
                            refine jJ_goto (pc := 195) (tgt := 199) dX7_turn_195 (by decide) ?_
                            refine jJ_istore_n (pc := 199) (ls' := [_, _, _, _, _, _, _, _]) dX7_turn_199 (Nat.le_of_ble_eq_true rfl) rfl ?_
                            simp only [jb_z] at c164 c173 c182 c191
                            refine good J2 hJ2 ?_
                            unfold okN
                            rw [okA_spec.mpr ⟨by omega, fun q hq => ?_⟩]
                            · cases hb : metB (xSg x) (fun j => (made mk (xNm x j)).1) (xNm x) i i 0 with
                              | false => rfl
                              | true => exact absurd hb hmet
                            · have : q = 0 ∨ q = 1 ∨ q = 2 ∨ q = 3 := by omega
                              rcases this with rfl | rfl | rfl | rfl <;> assumption
          refine jJ_if_ne (pc := 86) (tgt := 93) dX7_turn_86 (by decide) (fun c86 => ?_) (fun c86 => ?_)
          · simp only [jb_nz] at c86
            refine jJ_iconst (pc := 93) dX7_turn_93 (by decide) ?_
            exact two 0 (Or.inl rfl) (jb_f (fun z => z c86))
          · simp only [jb_z] at c86
            refine jJ_iconst (pc := 89) dX7_turn_89 (by decide) ?_
            refine jJ_goto (pc := 90) (tgt := 94) dX7_turn_90 (by decide) ?_
            exact two 1 (Or.inr rfl) (jb_t c86)
        · simp only [jb_z] at c72
          refine jJ_goto (pc := 75) (tgt := 200) dX7_turn_75 (by decide) ?_
          refine jJ_iinc (pc := 200) (ls' := [_, _, _, _, _, _, _, _]) dX7_turn_200 rfl ⟨by omega, by omega⟩ rfl ?_
          refine jJ_goto (pc := 203) (tgt := 50) dX7_turn_203 (by decide) ?_
          refine ih (i + 1) al J (by omega) (by omega) (by omega) hJ (fun J2 z h2 ho => ?_) (fun J2 al' z h2 ho => kk0 J2 al' z h2 (by rw [okAll, if_neg c72, ho]))
          have := kk1 J2 z h2 (by rw [okAll, if_neg c72, ho])
          rw [dltX, if_neg c72, Int.zero_add] at this
          exact this
end JRU
