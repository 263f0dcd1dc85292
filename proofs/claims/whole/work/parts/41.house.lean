section JHouse
variable {E : jE} {I : jI} {P : jP} {d : Nat} {h : Nat}
/-- nothing but these addresses has changed -/
def fr (S : List Nat) (I I' : jI) : Prop := ∀ a, a ∉ S → I' a = I a
theorem fr_rf {S : List Nat} {I : jI} : fr S I I := fun _ _ => rfl
theorem fr_tr {S : List Nat} {I J K : jI} (h1 : fr S I J) (h2 : fr S J K) : fr S I K := fun a ha => (h2 a ha).trans (h1 a ha)
theorem fr_sub {S T : List Nat} {I J : jI} (h1 : fr S I J) (h2 : ∀ a, a ∈ S → a ∈ T) : fr T I J := fun a ha => h1 a (fun z => ha (h2 a z))
theorem fr_out {I : jI} {o r : Nat} {w : List Int × Int} : fr [o, r] I (outM I o r w) := by
  intro a ha
  simp only [List.mem_cons, List.not_mem_nil, or_false, not_or] at ha
  funext k
  exact outM_x I w ha.1 ha.2
theorem fr_put {I : jI} {a k : Nat} {v : Int} {S : List Nat} (ha : a ∈ S) : fr S I (jput I a k v) := by
  intro b hb
  funext j
  exact jput_a I (fun z => hb (z ▸ ha))
theorem rowF_of {f : Nat → Int} : ∀ (l : List Int) (i : Nat), (∀ j, j < l.length → f (i + j) = l.getD j 0) → rowF f i l.length = l
  | [], i, _ => rfl
  | b :: t, i, hj => by
    have h0 := hj 0 (by simp)
    have ht := rowF_of (f := f) t (i + 1) (fun j hjt => by
      have := hj (j + 1) (by simp; omega)
      rw [show i + 1 + j = i + (j + 1) by omega, this]
      simp)
    simp only [List.length_cons, rowF, ht]
    simp at h0
    rw [h0]
theorem rowF_out {I : jI} {o r : Nat} {w : List Int × Int} (hne : o ≠ r) : rowF (outM I o r w r) 0 w.1.length = w.1 := by
  apply rowF_of
  intro j hj
  rw [Nat.zero_add]
  simp [outM, Ne.symm hne, hj]
theorem allE_iff {f g : Nat → Int} : ∀ (k i j : Nat), allE f g i j k = true ↔ rowF f i k = rowF g j k
  | 0, i, j => by simp [allE, rowF]
  | k + 1, i, j => by
    simp only [allE, rowF, List.cons.injEq]
    split
    · next hh => rw [allE_iff k (i + 1) (j + 1)]; simp [hh]
    · next hh => simp [hh]
theorem rowF_len {f : Nat → Int} : ∀ (k i : Nat), (rowF f i k).length = k
  | 0, i => rfl
  | k + 1, i => by simp [rowF, rowF_len k (i + 1)]
/-- the bytes of a TEXT's i-th TOKEN -/
def tNm (I : jI) (q : Nat → Nat) (i : Nat) : List Int := rowF (I (q 0)) (I (q 1) i).toNat (I (q 2) i - I (q 1) i).toNat
theorem tNm_fr {S : List Nat} {I J : jI} {q : Nat → Nat} (hf : fr S I J) (h0 : q 0 ∉ S) (h1 : q 1 ∉ S) (h2 : q 2 ∉ S) (i : Nat) : tNm J q i = tNm I q i := by unfold tNm; rw [hf _ h0, hf _ h1, hf _ h2]
theorem mrun_len (mk : Int) : ∀ (bs : List Int) (w : (List Int × Int) × Int), w.1.1.length ≤ 32 → (mrun mk w bs).1.1.length ≤ 32
  | [], w, hw => hw
  | b :: t, w, hw => by
    show (mrun mk (mstep mk w b) t).1.1.length ≤ 32
    apply mrun_len mk t
    unfold mstep
    split
    · exact hw
    · split
      · exact spart_len _ _ hw
      · exact mput_len _ hw
theorem made_len (mk : Int) (bs : List Int) : (made mk bs).1.length ≤ 32 := mrun_len mk bs _ (by simp)
/-- how the maker lies -/
def MkL (E : jE) (P : jP) (h m rm : Nat) : Prop := P h 14 = some m ∧ jK E 1 m ∧ P m 0 = some rm ∧ jAr E 8 rm 32
def cntMd (nm : Nat → List Int) (sg : Nat → Int) (mk : Int) : Nat → Nat → Int
  | _, 0 => 0
  | i, k + 1 => (if sg i = 1 ∧ 1 < (made mk (nm i)).2 ∧ (made mk (nm i)).1 = nm i then 1 else 0) + cntMd nm sg mk (i + 1) k
theorem cntMd_r (nm : Nat → List Int) (sg : Nat → Int) (mk : Int) : ∀ (k i : Nat), 0 ≤ cntMd nm sg mk i k ∧ cntMd nm sg mk i k ≤ k
  | 0, i => by simp [cntMd]
  | k + 1, i => by
    have := cntMd_r nm sg mk k (i + 1)
    simp only [cntMd]
    split <;> omega
def TokR2 (I : jI) (q : Nat → Nat) (n : Nat) : Prop := ∀ k, k < n → 0 ≤ I (q 1) k ∧ I (q 1) k ≤ I (q 2) k ∧ I (q 2) k ≤ 800
theorem countMade_loop {x m rm n : Nat} {q : Nat → Nat} {mk : Int} (h0 : jK E 6 h) (hm : MkL E P h m rm) (hx : TxL E P x q) (hrm : q 0 ≠ rm) (hn : I x 11 = (n : Int)) (hn2 : n ≤ 200) (hT : TokR2 I q n) (hd : 3 ≤ d) :
    ∀ (k i : Nat) (c : Int) (z5 z6 : Option jV) (J : jI), i + k = n → 0 ≤ c → c ≤ i → fr [m, rm] I J → jJ E yX6_countMade.cls cX6_countMade 7 (some .int) (jRm d) (jZ E (fun r I' P' => r = some (ji (c + cntMd (tNm I q) (I (q 3)) mk i k)) ∧ P' = P ∧ fr [m, rm] I I')) 0 0 5 [some (jp h), some (jp x), some (ji mk), some (ji c), some (ji (i : Int)), z5, z6] [] J P := by
  have hx0 := hx
  obtain ⟨g0, ⟨p0, p1, p2, p3, p4, p5, p6, p7⟩, ⟨a0, a1, a2, a3, a4, a5, a6, a7⟩⟩ := hx
  obtain ⟨pm, km, prm, arm⟩ := hm
  have hne : m ≠ rm := jne km.2 arm.2.1 (by decide)
  have nx : x ∉ [m, rm] := by simp [jne g0.2 km.2 (by decide : (5 : Nat) ≠ 1), jne g0.2 arm.2.1 (by decide : (5 : Nat) ≠ 8)]
  have n0 : q 0 ∉ [m, rm] := by simp [jne a0.2.1 km.2 (by decide : (8 : Nat) ≠ 1), hrm]
  have n1 : q 1 ∉ [m, rm] := by simp [jne a1.2.1 km.2 (by decide : (9 : Nat) ≠ 1), jne a1.2.1 arm.2.1 (by decide : (9 : Nat) ≠ 8)]
  have n2 : q 2 ∉ [m, rm] := by simp [jne a2.2.1 km.2 (by decide : (9 : Nat) ≠ 1), jne a2.2.1 arm.2.1 (by decide : (9 : Nat) ≠ 8)]
  have n3 : q 3 ∉ [m, rm] := by simp [jne a3.2.1 km.2 (by decide : (9 : Nat) ≠ 1), jne a3.2.1 arm.2.1 (by decide : (9 : Nat) ≠ 8)]
  intro k
  induction k with
  | zero =>
    intro i c z5 z6 J hi hc1 hc2 hf
    refine jJ_iload (pc := 5) dX6_countMade_5 rfl ?_
    refine jJ_aload_n (pc := 7) dX6_countMade_7 rfl ?_
    refine jJ_geti (pc := 8) dX6_countMade_8 fX6_128 rfl (by assumption) ?_
    rw [hf x nx, hn]
    refine jJ_icmp_ge (pc := 11) (tgt := 108) dX6_countMade_11 (by decide) (fun c11 => ?_) (fun c11 => ?_)
    · refine jJ_iload_n (pc := 108) dX6_countMade_108 rfl ?_
      refine jJ_iret (pc := 109) dX6_countMade_109 rfl ?_
      exact ⟨by rw [cntMd, Int.add_zero], rfl, hf⟩
    · exfalso
      omega
  | succ k ih =>
    intro i c z5 z6 J hi hc1 hc2 hf
    have hTi := hT i (by omega)
    have no : ¬ (I (q 3) i = 1 ∧ 1 < (made mk (tNm I q i)).2 ∧ (made mk (tNm I q i)).1 = tNm I q i) → ∀ (z5 z6 : Option jV) (J : jI), fr [m, rm] I J → jJ E yX6_countMade.cls cX6_countMade 7 (some .int) (jRm d) (jZ E (fun r I' P' => r = some (ji (c + cntMd (tNm I q) (I (q 3)) mk i (k + 1))) ∧ P' = P ∧ fr [m, rm] I I')) 0 0 102 [some (jp h), some (jp x), some (ji mk), some (ji c), some (ji (i : Int)), z5, z6] [] J P := by
      intro hno z5 z6 J hf
      refine jJ_iinc (pc := 102) (ls' := [_, _, _, _, _, _, _]) dX6_countMade_102 rfl ⟨by omega, by omega⟩ rfl ?_
      refine jJ_goto (pc := 105) (tgt := 5) dX6_countMade_105 (by decide) ?_
      rw [cntMd, if_neg hno, Int.zero_add]
      exact ih (i + 1) c z5 z6 J (by omega) hc1 (by omega) hf
    refine jJ_iload (pc := 5) dX6_countMade_5 rfl ?_
    refine jJ_aload_n (pc := 7) dX6_countMade_7 rfl ?_
    refine jJ_geti (pc := 8) dX6_countMade_8 fX6_128 rfl (by assumption) ?_
    rw [hf x nx, hn]
    refine jJ_icmp_ge (pc := 11) (tgt := 108) dX6_countMade_11 (by decide) (fun c11 => ?_) (fun c11 => ?_)
    · exfalso
      omega
    · refine jJ_aload_n (pc := 14) dX6_countMade_14 rfl ?_
      refine jJ_getr (pc := 15) dX6_countMade_15 fX6_221 rfl (by assumption) (by assumption) ?_
      refine jJ_iload (pc := 18) dX6_countMade_18 rfl ?_
      refine jJ_iald (pc := 20) dX6_countMade_20 a3 ⟨by omega, by omega⟩ ?_
      rw [Int.toNat_natCast, hf _ n3]
      refine jJ_iconst (pc := 21) dX6_countMade_21 (by decide) ?_
      refine jJ_icmp_ne (pc := 22) (tgt := 102) dX6_countMade_22 (by decide) (fun c22 => ?_) (fun c22 => ?_)
      · exact no (fun z => c22 z.1) _ _ _ hf
      · refine jJ_aload_n (pc := 25) dX6_countMade_25 rfl ?_
        refine jJ_getr (pc := 26) dX6_countMade_26 fX6_204 rfl (by assumption) (by assumption) ?_
        refine jJ_iload (pc := 29) dX6_countMade_29 rfl ?_
        refine jJ_iald (pc := 31) dX6_countMade_31 a1 ⟨by omega, by omega⟩ ?_
        rw [Int.toNat_natCast, hf _ n1]
        refine jJ_istore (pc := 32) (ls' := [_, _, _, _, _, _, _]) dX6_countMade_32 (Nat.le_of_ble_eq_true rfl) rfl ?_
        refine jJ_aload_n (pc := 34) dX6_countMade_34 rfl ?_
        refine jJ_getr (pc := 35) dX6_countMade_35 fX6_207 rfl (by assumption) (by assumption) ?_
        refine jJ_iload (pc := 38) dX6_countMade_38 rfl ?_
        refine jJ_iald (pc := 40) dX6_countMade_40 a2 ⟨by omega, by omega⟩ ?_
        rw [Int.toNat_natCast, hf _ n2]
        refine jJ_istore (pc := 41) (ls' := [_, _, _, _, _, _, _]) dX6_countMade_41 (Nat.le_of_ble_eq_true rfl) rfl ?_
        refine jJ_aload_n (pc := 43) dX6_countMade_43 rfl ?_
        refine jJ_getr (pc := 44) dX6_countMade_44 fX6_66 rfl (by assumption) (by first | exact pm | exact p0) ?_
        refine jJ_aload_n (pc := 47) dX6_countMade_47 rfl ?_
        refine jJ_getr (pc := 48) dX6_countMade_48 fX6_201 rfl (by assumption) (by first | exact pm | exact p0) ?_
        refine jJ_iload (pc := 51) dX6_countMade_51 rfl ?_
        refine jJ_iload (pc := 53) dX6_countMade_53 rfl ?_
        refine jJ_iload_n (pc := 55) dX6_countMade_55 rfl ?_
        refine jJ_callVd (pc := 56) (as := [_, _, _, _]) dX6_countMade_56 mX6_228 (jRcv_of (by assumption) rfl rfl) (Nat.le_of_ble_eq_true rfl) (jRm_ok (by omega) (by decide)) (c_Maker_make (d := d - 1) km prm arm hne a0 (fun z => n0 (by simp [z])) hrm (by decide) (by omega) (by omega)) ?_
        rw [hf _ n0, show min (I (q 2) i) ((800 : Nat) : Int) - ((I (q 1) i).toNat : Int) = I (q 2) i - I (q 1) i by omega]
        rw [show rowF (I (q 0)) (I (q 1) i).toNat (I (q 2) i - I (q 1) i).toNat = tNm I q i from rfl]
        have hml := made_len mk (tNm I q i)
        refine jJ_aload_n (pc := 59) dX6_countMade_59 rfl ?_
        refine jJ_getr (pc := 60) dX6_countMade_60 fX6_66 rfl (by assumption) (by first | exact pm | exact p0) ?_
        refine jJ_geti (pc := 63) dX6_countMade_63 fX6_258 rfl (by assumption) ?_
        rw [outM_2]
        refine jJ_iconst (pc := 66) dX6_countMade_66 (by decide) ?_
        refine jJ_icmp_le (pc := 67) (tgt := 102) dX6_countMade_67 (by decide) (fun c67 => ?_) (fun c67 => ?_)
        · exact no (fun z => by have := z.2.1; omega) _ _ _ (fr_tr hf fr_out)
        · refine jJ_aload_n (pc := 70) dX6_countMade_70 rfl ?_
          refine jJ_getr (pc := 71) dX6_countMade_71 fX6_66 rfl (by assumption) (by first | exact pm | exact prm | exact p0) ?_
          refine jJ_getr (pc := 74) dX6_countMade_74 fX6_233 rfl (by assumption) (by first | exact pm | exact prm | exact p0) ?_
          refine jJ_iconst (pc := 77) dX6_countMade_77 (by decide) ?_
          refine jJ_aload_n (pc := 78) dX6_countMade_78 rfl ?_
          refine jJ_getr (pc := 79) dX6_countMade_79 fX6_66 rfl (by assumption) (by first | exact pm | exact prm | exact p0) ?_
          refine jJ_geti (pc := 82) dX6_countMade_82 fX6_232 rfl (by assumption) ?_
          rw [outM_1]
          refine jJ_aload_n (pc := 85) dX6_countMade_85 rfl ?_
          refine jJ_getr (pc := 86) dX6_countMade_86 fX6_201 rfl (by assumption) (by first | exact pm | exact p0) ?_
          refine jJ_iload (pc := 89) dX6_countMade_89 rfl ?_
          refine jJ_iload (pc := 91) dX6_countMade_91 rfl ?_
          refine jJ_callSd (pc := 93) (as := [_, _, _, _, _, _]) dX6_countMade_93 mX6_247 (Nat.le_of_ble_eq_true rfl) (jRm_ok (by omega) (by decide)) (c_same (d := d - 1) arm a0 ⟨by decide, by decide⟩ ⟨by decide, by decide⟩ ⟨by omega, by omega⟩ ⟨by omega, by omega⟩ ⟨by omega, by omega⟩) ?_
          refine jJ_if_eq (pc := 96) (tgt := 102) dX6_countMade_96 (by decide) (fun c96 => ?_) (fun c96 => ?_)
          · simp only [jb_z] at c96
            refine no (fun z => c96 ?_) _ _ _ (fr_tr hf fr_out)
            obtain ⟨-, z2, z3⟩ := z
            have hlen : (made mk (tNm I q i)).1.length = (I (q 2) i - I (q 1) i).toNat := by rw [z3, tNm, rowF_len]
            refine ⟨by omega, by omega, by omega, by omega, by omega, ?_⟩
            rw [allE_iff, show (((made mk (tNm I q i)).1.length : Int) - 0).toNat = (made mk (tNm I q i)).1.length by omega, show (0 : Int).toNat = 0 from rfl, rowF_out hne, show outM J m rm (made mk (tNm I q i)) (q 0) = I (q 0) from (fr_tr hf fr_out) _ n0, hlen]
            exact z3
          · simp only [jb_nz] at c96
            obtain ⟨e1, -, -, -, -, e6⟩ := c96
            have hlen : (made mk (tNm I q i)).1.length = (I (q 2) i - I (q 1) i).toNat := by omega
            rw [allE_iff, show (((made mk (tNm I q i)).1.length : Int) - 0).toNat = (made mk (tNm I q i)).1.length by omega, show (0 : Int).toNat = 0 from rfl, rowF_out hne, show outM J m rm (made mk (tNm I q i)) (q 0) = I (q 0) from (fr_tr hf fr_out) _ n0, hlen] at e6
            refine jJ_iinc (pc := 99) (ls' := [_, _, _, _, _, _, _]) dX6_countMade_99 rfl ⟨by omega, by omega⟩ rfl ?_
            refine jJ_iinc (pc := 102) (ls' := [_, _, _, _, _, _, _]) dX6_countMade_102 rfl ⟨by omega, by omega⟩ rfl ?_
            refine jJ_goto (pc := 105) (tgt := 5) dX6_countMade_105 (by decide) ?_
            rw [cntMd, if_pos ⟨c22, by omega, e6⟩, ← Int.add_assoc]
            exact ih (i + 1) (c + 1) _ _ _ (by omega) (by omega) (by omega) (fr_tr hf fr_out)
theorem c_countMade {x m rm n : Nat} {q : Nat → Nat} {mk : Int} (h0 : jK E 6 h) (hm : MkL E P h m rm) (hx : TxL E P x q) (hrm : q 0 ≠ rm) (hn : I x 11 = (n : Int)) (hn2 : n ≤ 200) (hT : TokR2 I q n) (hd : 3 ≤ d) : jC E yX6_countMade cX6_countMade 7 (some .int) d [jp h, jp x, ji mk] I P (fun r I' P' => r = some (ji (cntMd (tNm I q) (I (q 3)) mk 0 n)) ∧ P' = P ∧ fr [m, rm] I I') := by
  refine jC_intro (by decide +kernel) (by simp [jc, va_rf, Value.category]) (Nat.le_of_ble_eq_true rfl) ?_
  refine jJ_iconst (pc := 0) dX6_countMade_0 (by decide) ?_
  refine jJ_istore_n (pc := 1) (ls' := [_, _, _, _, _, _, _]) dX6_countMade_1 (Nat.le_of_ble_eq_true rfl) rfl ?_
  refine jJ_iconst (pc := 2) dX6_countMade_2 (by decide) ?_
  refine jJ_istore (pc := 3) (ls' := [_, _, _, _, _, _, _]) dX6_countMade_3 (Nat.le_of_ble_eq_true rfl) rfl ?_
  have k := countMade_loop h0 hm hx hrm hn hn2 hT hd (mk := mk) n 0 0 none none I (by omega) (by omega) (by omega) fr_rf
  rw [Int.zero_add] at k
  exact k
end JHouse
