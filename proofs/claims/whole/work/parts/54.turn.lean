section JTurn
variable {E : jE} {I : jI} {P : jP} {d : Nat} {h : Nat}
theorem jJ_I {own : String} {cc : ByteArray} {nL : Nat} {rt : Option FieldType} {R : Room} {Z : Code → List Frame → Array Value → State → State → Prop} {cs ss pc : Nat} {ls : List (Option jV)} {st : List jV} {I I' : jI} (e : I = I') (k : jJ E own cc nL rt R Z cs ss pc ls st I' P) : jJ E own cc nL rt R Z cs ss pc ls st I P := e ▸ k
theorem outM_keep {J J' : jI} {o r : Nat} {w : List Int × Int} (hw : outM J o r w = J) (h1 : J' o = J o) (h2 : J' r = J r) : outM J' o r w = J' := by
  funext a k
  have e := congrFun (congrFun hw a) k
  simp only [outM] at e ⊢
  by_cases c1 : a = o ∧ k = 1
  · rw [if_pos c1] at e ⊢
    rw [c1.1, h1, ← c1.1]; exact e
  · rw [if_neg c1] at e ⊢
    by_cases c2 : a = o ∧ k = 2
    · rw [if_pos c2] at e ⊢
      rw [c2.1, h1, ← c2.1]; exact e
    · rw [if_neg c2] at e ⊢
      by_cases c3 : a = r ∧ k < w.1.length
      · rw [if_pos c3] at e ⊢
        rw [c3.1, h2, ← c3.1]; exact e
      · rw [if_neg c3]
theorem outM_row {J : jI} {o r : Nat} {w : List Int × Int} (hne : o ≠ r) (hw : outM J o r w = J) {j : Nat} (hj : j < w.1.length) : J r j = w.1.getD j 0 := by
  rw [← hw]; simp [outM, Ne.symm hne, hj]
theorem outM_len {J : jI} {o r : Nat} {w : List Int × Int} (hw : outM J o r w = J) : J o 1 = (w.1.length : Int) := by rw [← hw, outM_1]
theorem rowF_take {f : Nat → Int} {l : List Int} (hf : ∀ j, j < l.length → f j = l.getD j 0) {a k : Nat} (hk : a + k ≤ l.length) : rowF f a k = (l.drop a).take k := by
  have hl : ((l.drop a).take k).length = k := by simp; omega
  have := rowF_of (f := f) ((l.drop a).take k) a (fun j hj => by
    rw [hl] at hj
    rw [hf (a + j) (by omega)]
    simp [List.getD_eq_getElem?_getD, List.getElem?_take, hj])
  rw [hl] at this
  exact this
theorem oall_fit : ∀ (bs l : List Int) (z : Int), l.length + bs.length ≤ 2000 → oall (l, z) bs = (l ++ bs.map jB, z)
  | [], l, z, _ => by simp [oall]
  | b :: t, l, z, hl => by
    simp only [List.length_cons] at hl
    show oall (oput (l, z) b) t = _
    rw [show oput (l, z) b = (l ++ [jB b], z) by unfold oput; rw [if_pos (by show l.length < 2000; omega)], oall_fit t (l ++ [jB b]) z (by simp; omega)]
    simp
theorem mput_jB {w : List Int × Int} {b : Int} (h : ∀ v ∈ w.1, jB v = v) : ∀ v ∈ (mput w b).1, jB v = v := by
  unfold mput
  split
  · intro v hv
    rcases List.mem_append.mp hv with hv | hv
    · exact h v hv
    · rw [List.mem_singleton.mp hv, jB_jB]
  · exact h
theorem spart_jB {w : List Int × Int} {b mk : Int} (h : ∀ v ∈ w.1, jB v = v) : ∀ v ∈ (spart w b mk).1, jB v = v := by
  unfold spart
  split
  · exact mput_jB h
  · split
    · exact mput_jB (mput_jB h)
    · exact mput_jB h
theorem mrun_jB (mk : Int) : ∀ (bs : List Int) (w : (List Int × Int) × Int), (∀ v ∈ w.1.1, jB v = v) → ∀ v ∈ (mrun mk w bs).1.1, jB v = v
  | [], w, hw => hw
  | b :: t, w, hw => by
    show ∀ v ∈ (mrun mk (mstep mk w b) t).1.1, jB v = v
    apply mrun_jB mk t
    unfold mstep
    split
    · exact hw
    · split
      · exact spart_jB hw
      · exact mput_jB hw
theorem made_jB (mk : Int) (bs : List Int) : (made mk bs).1.map jB = (made mk bs).1 := by
  have := mrun_jB mk bs (([], 0), 1) (by simp)
  conv => rhs; rw [← List.map_id (made mk bs).1]
  exact List.map_congr_left this
theorem mput_l2 (w : List Int × Int) (b : Int) : (mput w b).1.length ≤ w.1.length + 1 := by unfold mput; split <;> simp
theorem spart_l2 (w : List Int × Int) (b mk : Int) : (spart w b mk).1.length ≤ w.1.length + 2 := by
  unfold spart
  split
  · have := mput_l2 (w.1, w.2 + 1) (smallOf b); simp only at this; omega
  · split
    · have a1 := mput_l2 (mput (w.1, w.2 + 1) 95) (smallOf b)
      have a2 := mput_l2 (w.1, w.2 + 1) 95
      simp only at a1 a2
      omega
    · have := mput_l2 (w.1, w.2 + 1) (greatOf (smallOf b)); simp only at this; omega
theorem mrun_l2 (mk : Int) : ∀ (bs : List Int) (w : (List Int × Int) × Int), (mrun mk w bs).1.1.length ≤ w.1.1.length + 2 * bs.length
  | [], w => by simp [mrun]
  | b :: t, w => by
    show (mrun mk (mstep mk w b) t).1.1.length ≤ _
    have hr := mrun_l2 mk t (mstep mk w b)
    have hm : (mstep mk w b).1.1.length ≤ w.1.1.length + 2 := by
      unfold mstep
      split
      · simp
      · split
        · exact spart_l2 _ _ _
        · have := mput_l2 w.1 b; simp only; omega
    simp only [List.length_cons]
    omega
theorem made_l2 (mk : Int) (bs : List Int) : (made mk bs).1.length ≤ 2 * bs.length := by
  have := mrun_l2 mk bs (([], 0), 1)
  simpa [made] using this
/-- the sort of a made WORD -/
def wSoL (l : List Int) : Int := wSort (fun k => l.getD k 0) 32 0 (l.length : Int)
theorem allE_cg {f f' g : Nat → Int} : ∀ (k i j : Nat), (∀ m, m < i + k → f m = f' m) → allE f g i j k = allE f' g i j k
  | 0, i, j, _ => rfl
  | k + 1, i, j, h => by simp only [allE]; rw [h i (by omega), allE_cg k (i + 1) (j + 1) (fun m hm => h m (by omega))]
theorem isKw_cg {f : Nat → Int} {l : List Int} {i : Nat} (h : ∀ j, j < l.length → f j = l.getD j 0) : isKw f 32 i 0 (l.length : Int) = isKw (fun k => l.getD k 0) 32 i 0 (l.length : Int) := by
  have e : isKw f 32 i 0 (l.length : Int) = true ↔ isKw (fun k => l.getD k 0) 32 i 0 (l.length : Int) = true := by
    rw [isKw_iff, isKw_iff]
    constructor
    · rintro ⟨a1, a2, a3, a4⟩
      refine ⟨a1, a2, a3, ?_⟩
      rw [← a4]
      exact (allE_cg _ _ _ (fun m hm => h m (by simp at hm; omega))).symm
    · rintro ⟨a1, a2, a3, a4⟩
      refine ⟨a1, a2, a3, ?_⟩
      rw [← a4]
      exact allE_cg _ _ _ (fun m hm => h m (by simp at hm; omega))
  cases hq : isKw f 32 i 0 (l.length : Int) <;> cases hr : isKw (fun k => l.getD k 0) 32 i 0 (l.length : Int) <;> simp_all
theorem wSort_cg {f : Nat → Int} {l : List Int} (h : ∀ j, j < l.length → f j = l.getD j 0) : wSort f 32 0 (l.length : Int) = wSoL l := by
  unfold wSoL wSort
  rw [isKw_cg h, isKw_cg h, isKw_cg h, isKw_cg h]
/-- an unlike NAME among the k from i on comes to the same -/
def metB (sg : Nat → Int) (md nm : Nat → List Int) (tk : Nat) : Nat → Nat → Bool
  | 0, _ => false
  | k + 1, i => if sg i = 1 ∧ md i = md tk ∧ nm i ≠ nm tk then true else metB sg md nm tk k (i + 1)
def sgO (J : jI) (r ms me : Nat) (j : Nat) : List Int := rowF (J r) (J ms j).toNat (J me j - J ms j).toNat
/-- how what is made lies -/
def MdL (E : jE) (P : jP) (h o r ms me : Nat) : Prop := P h 12 = some o ∧ jK E 2 o ∧ P o 0 = some r ∧ jAr E 8 r 2000 ∧ P h 15 = some ms ∧ jAr E 9 ms 200 ∧ P h 16 = some me ∧ jAr E 9 me 200
theorem meets_loop {x o r ms me tk : Nat} {q : Nat → Nat} {J : jI} (h0 : jK E 6 h) (hM : MdL E P h o r ms me) (hx : TxL E P x q) (htk : tk < 200) (hR : TokR2 J q (tk + 1)) (hs : ∀ j, j ≤ tk → J (q 3) j = 1 → 0 ≤ J ms j ∧ J ms j ≤ J me j ∧ J me j ≤ 2000) (h1 : J (q 3) tk = 1) (hd : 2 ≤ d) :
    ∀ (k i : Nat), i + k = tk → jJ E yX6_meetsUnlikeName.cls cX6_meetsUnlikeName 4 (some .boolean) (jRm d) (jZ E (jD (some (ji (jb (metB (J (q 3)) (sgO J r ms me) (tNm J q) tk k i = true)))) J P)) 0 0 2 [some (jp h), some (jp x), some (ji (tk : Int)), some (ji (i : Int))] [] J P := by
  obtain ⟨p12, ho, hor, hra, p15, ams, p16, ame⟩ := hM
  have hx0 := hx
  obtain ⟨g0, ⟨p0, p1, p2, p3, p4, p5, p6, p7⟩, ⟨a0, a1, a2, a3, a4, a5, a6, a7⟩⟩ := hx
  intro k
  induction k with
  | zero =>
    intro i hi
    refine jJ_iload_n (pc := 2) dX6_meetsUnlikeName_2 rfl ?_
    refine jJ_iload_n (pc := 3) dX6_meetsUnlikeName_3 rfl ?_
    refine jJ_icmp_ge (pc := 4) (tgt := 79) dX6_meetsUnlikeName_4 (by decide) (fun c4 => ?_) (fun c4 => ?_)
    · refine jJ_iconst (pc := 79) dX6_meetsUnlikeName_79 (by decide) ?_
      refine jJ_zret (pc := 80) dX6_meetsUnlikeName_80 rfl (by decide) ?_
      exact ⟨by simp [metB, jb], rfl, rfl⟩
    · exfalso
      omega
  | succ k ih =>
    intro i hi
    have ri := hR i (by omega)
    have rt := hR tk (by omega)
    have no : ¬ (J (q 3) i = 1 ∧ sgO J r ms me i = sgO J r ms me tk ∧ tNm J q i ≠ tNm J q tk) → jJ E yX6_meetsUnlikeName.cls cX6_meetsUnlikeName 4 (some .boolean) (jRm d) (jZ E (jD (some (ji (jb (metB (J (q 3)) (sgO J r ms me) (tNm J q) tk (k + 1) i = true)))) J P)) 0 0 73 [some (jp h), some (jp x), some (ji (tk : Int)), some (ji (i : Int))] [] J P := by
      intro hno
      refine jJ_iinc (pc := 73) (ls' := [_, _, _, _]) dX6_meetsUnlikeName_73 rfl ⟨by omega, by omega⟩ rfl ?_
      refine jJ_goto (pc := 76) (tgt := 2) dX6_meetsUnlikeName_76 (by decide) ?_
      rw [metB, if_neg hno]
      exact ih (i + 1) (by omega)
    refine jJ_iload_n (pc := 2) dX6_meetsUnlikeName_2 rfl ?_
    refine jJ_iload_n (pc := 3) dX6_meetsUnlikeName_3 rfl ?_
    refine jJ_icmp_ge (pc := 4) (tgt := 79) dX6_meetsUnlikeName_4 (by decide) (fun c4 => ?_) (fun c4 => ?_)
    · exfalso
      omega
    · refine jJ_aload_n (pc := 7) dX6_meetsUnlikeName_7 rfl ?_
      refine jJ_getr (pc := 8) dX6_meetsUnlikeName_8 fX6_221 rfl (by assumption) (by assumption) ?_
      refine jJ_iload_n (pc := 11) dX6_meetsUnlikeName_11 rfl ?_
      refine jJ_iald (pc := 12) dX6_meetsUnlikeName_12 a3 ⟨by omega, by omega⟩ ?_
      rw [Int.toNat_natCast]
      refine jJ_iconst (pc := 13) dX6_meetsUnlikeName_13 (by decide) ?_
      refine jJ_icmp_ne (pc := 14) (tgt := 73) dX6_meetsUnlikeName_14 (by decide) (fun c14 => ?_) (fun c14 => ?_)
      · exact no (fun z => c14 z.1)
      · have si := hs i (by omega) c14
        have st := hs tk (by omega) h1
        refine jJ_aload_n (pc := 17) dX6_meetsUnlikeName_17 rfl ?_
        refine jJ_getr (pc := 18) dX6_meetsUnlikeName_18 fX6_56 rfl (by assumption) (by first | exact p12 | exact hor | exact p15) ?_
        refine jJ_getr (pc := 21) dX6_meetsUnlikeName_21 fX6_244 rfl (by assumption) (by first | exact p12 | exact hor | exact p15) ?_
        refine jJ_aload_n (pc := 24) dX6_meetsUnlikeName_24 rfl ?_
        refine jJ_getr (pc := 25) dX6_meetsUnlikeName_25 fX6_70 rfl (by assumption) (by first | exact p12 | exact hor | exact p15) ?_
        refine jJ_iload_n (pc := 28) dX6_meetsUnlikeName_28 rfl ?_
        refine jJ_iald (pc := 29) dX6_meetsUnlikeName_29 ams ⟨by omega, by omega⟩ ?_
        rw [Int.toNat_natCast]
        refine jJ_aload_n (pc := 30) dX6_meetsUnlikeName_30 rfl ?_
        refine jJ_getr (pc := 31) dX6_meetsUnlikeName_31 fX6_74 rfl (by assumption) p16 ?_
        refine jJ_iload_n (pc := 34) dX6_meetsUnlikeName_34 rfl ?_
        refine jJ_iald (pc := 35) dX6_meetsUnlikeName_35 ame ⟨by omega, by omega⟩ ?_
        rw [Int.toNat_natCast]
        refine jJ_aload_n (pc := 36) dX6_meetsUnlikeName_36 rfl ?_
        refine jJ_getr (pc := 37) dX6_meetsUnlikeName_37 fX6_56 rfl (by assumption) (by first | exact p12 | exact hor | exact p15) ?_
        refine jJ_getr (pc := 40) dX6_meetsUnlikeName_40 fX6_244 rfl (by assumption) (by first | exact p12 | exact hor | exact p15) ?_
        refine jJ_aload_n (pc := 43) dX6_meetsUnlikeName_43 rfl ?_
        refine jJ_getr (pc := 44) dX6_meetsUnlikeName_44 fX6_70 rfl (by assumption) (by first | exact p12 | exact hor | exact p15) ?_
        refine jJ_iload_n (pc := 47) dX6_meetsUnlikeName_47 rfl ?_
        refine jJ_iald (pc := 48) dX6_meetsUnlikeName_48 ams ⟨by omega, by omega⟩ ?_
        rw [Int.toNat_natCast]
        refine jJ_aload_n (pc := 49) dX6_meetsUnlikeName_49 rfl ?_
        refine jJ_getr (pc := 50) dX6_meetsUnlikeName_50 fX6_74 rfl (by assumption) p16 ?_
        refine jJ_iload_n (pc := 53) dX6_meetsUnlikeName_53 rfl ?_
        refine jJ_iald (pc := 54) dX6_meetsUnlikeName_54 ame ⟨by omega, by omega⟩ ?_
        rw [Int.toNat_natCast]
        refine jJ_callSd (pc := 55) (as := [_, _, _, _, _, _]) dX6_meetsUnlikeName_55 mX6_247 (Nat.le_of_ble_eq_true rfl) (jRm_ok (by omega) (by decide)) (c_same (d := d - 1) hra hra ⟨by decide, by decide⟩ ⟨by omega, by omega⟩ ⟨by omega, by omega⟩ ⟨by omega, by omega⟩ ⟨by omega, by omega⟩) ?_
        have hiff : (J me tk - J ms tk = J me i - J ms i ∧ 0 ≤ J ms i ∧ J me i ≤ ((2000 : Nat) : Int) ∧ 0 ≤ J ms tk ∧ J me tk ≤ ((2000 : Nat) : Int) ∧ allE (J r) (J r) (J ms i).toNat (J ms tk).toNat (J me i - J ms i).toNat = true) ↔ sgO J r ms me i = sgO J r ms me tk := by
          rw [allE_iff]
          unfold sgO
          constructor
          · rintro ⟨e1, -, -, -, -, e6⟩
            rw [e1]; exact e6
          · intro e
            have hl := congrArg List.length e
            rw [rowF_len, rowF_len] at hl
            have e1 : J me tk - J ms tk = J me i - J ms i := by omega
            exact ⟨e1, by omega, by omega, by omega, by omega, by rw [e1] at e; exact e⟩
        refine jJ_if_eq (pc := 58) (tgt := 73) dX6_meetsUnlikeName_58 (by decide) (fun c58 => ?_) (fun c58 => ?_)
        · simp only [jb_z, hiff] at c58
          exact no (fun z => c58 z.2.1)
        · simp only [jb_nz, hiff] at c58
          refine jJ_aload_n (pc := 61) dX6_meetsUnlikeName_61 rfl ?_
          refine jJ_iload_n (pc := 62) dX6_meetsUnlikeName_62 rfl ?_
          refine jJ_aload_n (pc := 63) dX6_meetsUnlikeName_63 rfl ?_
          refine jJ_iload_n (pc := 64) dX6_meetsUnlikeName_64 rfl ?_
          refine jJ_callVd (pc := 65) (as := [_, _, _]) dX6_meetsUnlikeName_65 mX6_251 (jRcv_of hx0.1 rfl rfl) (Nat.le_of_ble_eq_true rfl) (jRm_ok (by omega) (by decide)) (c_Text_sameToken (d := d - 1) hx0 hx0 (by omega) (by omega) (by omega) (by omega) (by omega) (by omega) (by omega)) ?_
          refine jJ_if_ne (pc := 68) (tgt := 73) dX6_meetsUnlikeName_68 (by decide) (fun c68 => ?_) (fun c68 => ?_)
          · simp only [jb_nz, sameTok_iff ri.2.1 rt.2.1] at c68
            exact no (fun z => z.2.2 c68)
          · simp only [jb_z, sameTok_iff ri.2.1 rt.2.1] at c68
            refine jJ_iconst (pc := 71) dX6_meetsUnlikeName_71 (by decide) ?_
            refine jJ_zret (pc := 72) dX6_meetsUnlikeName_72 rfl (by decide) ?_
            exact ⟨by rw [metB, if_pos ⟨c14, c58, c68⟩]; simp [jb], rfl, rfl⟩
theorem c_meets {x o r ms me tk : Nat} {q : Nat → Nat} {J : jI} (h0 : jK E 6 h) (hM : MdL E P h o r ms me) (hx : TxL E P x q) (htk : tk < 200) (hR : TokR2 J q (tk + 1)) (hs : ∀ j, j ≤ tk → J (q 3) j = 1 → 0 ≤ J ms j ∧ J ms j ≤ J me j ∧ J me j ≤ 2000) (h1 : J (q 3) tk = 1) (hd : 2 ≤ d) :
    jC E yX6_meetsUnlikeName cX6_meetsUnlikeName 4 (some .boolean) d [jp h, jp x, ji (tk : Int)] J P (jD (some (ji (jb (metB (J (q 3)) (sgO J r ms me) (tNm J q) tk tk 0 = true)))) J P) := by
  refine jC_intro (by decide +kernel) (by simp [jc, va_rf, Value.category]) (Nat.le_of_ble_eq_true rfl) ?_
  refine jJ_iconst (pc := 0) dX6_meetsUnlikeName_0 (by decide) ?_
  refine jJ_istore_n (pc := 1) (ls' := [_, _, _, _]) dX6_meetsUnlikeName_1 (Nat.le_of_ble_eq_true rfl) rfl ?_
  exact meets_loop h0 hM hx htk hR hs h1 hd tk 0 (by omega)
theorem metB_cg {sg sg' : Nat → Int} {md md' nm nm' : Nat → List Int} {tk : Nat} : ∀ (k i : Nat), i + k ≤ tk → (∀ j, j ≤ tk → sg j = sg' j) → (∀ j, j ≤ tk → sg j = 1 → md j = md' j) → (∀ j, j ≤ tk → nm j = nm' j) → sg tk = 1 → metB sg md nm tk k i = metB sg' md' nm' tk k i
  | 0, i, _, _, _, _, _ => rfl
  | k + 1, i, hi, h1, h2, h3, h4 => by
    rw [metB, metB, metB_cg k (i + 1) (by omega) h1 h2 h3 h4, ← h1 i (by omega), ← h3 i (by omega), ← h3 tk (by omega), ← h2 tk (by omega) h4]
    by_cases hs : sg i = 1
    · rw [h2 i (by omega) hs]
    · rw [if_neg (fun z => hs z.1), if_neg (fun z => hs z.1)]
end JTurn
