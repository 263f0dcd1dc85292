section JMaker
variable {E : jE} {I : jI} {P : jP} {d : Nat}
theorem outM_app (I : jI) {o r : Nat} (w : List Int × Int) (v : Int) (hne : o ≠ r) : jput (jput (outM I o r w) r w.1.length v) o 1 ((w.1.length : Int) + 1) = outM I o r (w.1 ++ [v], w.2) := by
  funext a k
  simp only [jput, outM]
  by_cases ha : a = o
  · subst ha
    by_cases hk : k = 1
    · subst hk; simp
    · simp [hk, hne]
  · by_cases hr : a = r
    · subst hr
      simp only [ha, false_and, if_false, true_and]
      by_cases hk : k = w.1.length
      · subst hk; simp
      · by_cases hk2 : k < w.1.length
        · simp [hk, hk2, Nat.lt_succ_of_lt hk2, List.getD_eq_getElem?_getD, List.getElem?_append_left hk2]
        · have : ¬ k < w.1.length + 1 := by omega
          simp [hk, hk2, this]
    · simp [ha, hr]
theorem outM_set2 (I : jI) {o r : Nat} (w : List Int × Int) (v : Int) : jput (outM I o r w) o 2 v = outM I o r (w.1, v) := by
  funext a k
  simp only [jput, outM]
  by_cases ha : a = o
  · subst ha
    by_cases hk : k = 1
    · subst hk; simp
    · by_cases hk2 : k = 2
      · subst hk2; simp
      · simp [hk, hk2]
  · simp [ha]
def mput (w : List Int × Int) (b : Int) : List Int × Int := if w.1.length < 32 then (w.1 ++ [jB b], w.2) else w
theorem mput_len {w : List Int × Int} (b : Int) (h : w.1.length ≤ 32) : (mput w b).1.length ≤ 32 := by
  unfold mput; split
  · simp; omega
  · exact h
theorem mput_2 (w : List Int × Int) (b : Int) : (mput w b).2 = w.2 := by unfold mput; split <;> rfl
theorem c_Maker_put {m r : Nat} {b : Int} {w : List Int × Int} (ho : jK E 1 m) (hr : P m 0 = some r) (hra : jAr E 8 r 32) (hne : m ≠ r) (hl : w.1.length ≤ 32) : jC E yX1_put cX1_put 2 none d [jp m, ji b] (outM I m r w) P (jD none (outM I m r (mput w b)) P) := by
  refine jC_intro (by decide +kernel) (by simp [jc, va_rf, Value.category]) (Nat.le_of_ble_eq_true rfl) ?_
  refine jJ_aload_n (pc := 0) dX1_put_0 rfl ?_
  refine jJ_geti (pc := 1) dX1_put_1 fX1_15 rfl (by assumption) ?_
  rw [outM_1]
  refine jJ_aload_n (pc := 4) dX1_put_4 rfl ?_
  refine jJ_getr (pc := 5) dX1_put_5 fX1_9 rfl (by assumption) (by assumption) ?_
  refine jJ_alen (pc := 8) (t0 := 0) dX1_put_8 (by assumption) rfl (by decide) (by decide) (by decide) ?_
  refine jJ_icmp_ge (pc := 9) (tgt := 33) dX1_put_9 (by decide) (fun c9 => ?_) (fun c9 => ?_)
  · refine jJ_vret (pc := 33) dX1_put_33 rfl ?_
    exact ⟨rfl, by rw [mput, if_neg (by omega)], rfl⟩
  · refine jJ_aload_n (pc := 12) dX1_put_12 rfl ?_
    refine jJ_getr (pc := 13) dX1_put_13 fX1_9 rfl (by assumption) (by assumption) ?_
    refine jJ_aload_n (pc := 16) dX1_put_16 rfl ?_
    refine jJ_geti (pc := 17) dX1_put_17 fX1_15 rfl (by assumption) ?_
    rw [outM_1]
    refine jJ_iload_n (pc := 20) dX1_put_20 rfl ?_
    refine jJ_i2b (pc := 21) dX1_put_21 ?_
    refine jJ_bast (pc := 22) dX1_put_22 (by assumption) ⟨by omega, by omega⟩ ?_
    refine jJ_aload_n (pc := 23) dX1_put_23 rfl ?_
    refine jJ_dup (pc := 24) dX1_put_24 rfl ?_
    refine jJ_geti (pc := 25) dX1_put_25 fX1_15 rfl (by assumption) ?_
    rw [jput_a (outM I m r w) hne, outM_1]
    refine jJ_iconst (pc := 28) dX1_put_28 (by decide) ?_
    refine jJ_iadd (pc := 29) dX1_put_29 ⟨by omega, by omega⟩ ?_
    refine jJ_puti (pc := 30) dX1_put_30 fX1_15w rfl ⟨rfl, rfl⟩ (by assumption) ?_
    refine jJ_vret (pc := 33) dX1_put_33 rfl ?_
    refine ⟨rfl, ?_, rfl⟩
    rw [Int.toNat_natCast, jB_jB, mput, if_pos (by omega)]
    exact outM_app I w (jB b) hne
/-- a small letter for a great one -/
def smallOf (b : Int) : Int := if 65 ≤ b ∧ b ≤ 90 then b - 65 + 97 else b
def greatOf (b : Int) : Int := if 97 ≤ b ∧ b ≤ 122 then b - 97 + 65 else b
def spart (w : List Int × Int) (b make : Int) : List Int × Int :=
  if w.2 + 1 = 1 then mput (w.1, w.2 + 1) (smallOf b) else if make = 0 then mput (mput (w.1, w.2 + 1) 95) (smallOf b) else mput (w.1, w.2 + 1) (greatOf (smallOf b))
theorem spart_len {w : List Int × Int} (b make : Int) (h : w.1.length ≤ 32) : (spart w b make).1.length ≤ 32 := by
  unfold spart
  split
  · exact mput_len _ h
  · split
    · exact mput_len _ (mput_len _ h)
    · exact mput_len _ h
theorem spart_2 (w : List Int × Int) (b make : Int) : (spart w b make).2 = w.2 + 1 := by
  unfold spart
  split
  · exact mput_2 _ _
  · split
    · rw [mput_2, mput_2]
    · exact mput_2 _ _
theorem c_Maker_startPart {m r : Nat} {b mk : Int} {w : List Int × Int} (ho : jK E 1 m) (hr : P m 0 = some r) (hra : jAr E 8 r 32) (hne : m ≠ r) (hl : w.1.length ≤ 32) (hw2 : 0 ≤ w.2 ∧ w.2 ≤ 100000) (hd : 1 ≤ d) :
    jC E yX1_startPart cX1_startPart 4 none d [jp m, ji b, ji mk] (outM I m r w) P (jD none (outM I m r (spart w b mk)) P) := by
  refine jC_intro (by decide +kernel) (by simp [jc, va_rf, Value.category]) (Nat.le_of_ble_eq_true rfl) ?_
  refine jJ_aload_n (pc := 0) dX1_startPart_0 rfl ?_
  refine jJ_dup (pc := 1) dX1_startPart_1 rfl ?_
  refine jJ_geti (pc := 2) dX1_startPart_2 fX1_19 rfl (by assumption) ?_
  rw [outM_2]
  refine jJ_iconst (pc := 5) dX1_startPart_5 (by decide) ?_
  refine jJ_iadd (pc := 6) dX1_startPart_6 ⟨by omega, by omega⟩ ?_
  refine jJ_puti (pc := 7) dX1_startPart_7 fX1_19w rfl ⟨rfl, rfl⟩ (by assumption) ?_
  rw [outM_set2]
  refine jJ_iload_n (pc := 10) dX1_startPart_10 rfl ?_
  refine jJ_callSd (pc := 11) (as := [_]) dX1_startPart_11 mX1_28 (Nat.le_of_ble_eq_true rfl) (jRm_ok (by omega) (by decide)) (c_isGreat (d := d - 1)) ?_
  have key : ∀ s : Int, s = smallOf b → jJ E yX1_startPart.cls cX1_startPart 4 none (jRm d) (jZ E (jD none (outM I m r (spart w b mk)) P)) 0 0 28 [some (jp m), some (ji b), some (ji mk), none] [ji s] (outM I m r (w.1, w.2 + 1)) P := by
    intro s hs
    refine jJ_istore_n (pc := 28) (ls' := [_, _, _, _]) dX1_startPart_28 (Nat.le_of_ble_eq_true rfl) rfl ?_
    refine jJ_aload_n (pc := 29) dX1_startPart_29 rfl ?_
    refine jJ_geti (pc := 30) dX1_startPart_30 fX1_19 rfl (by assumption) ?_
    rw [outM_2]
    refine jJ_iconst (pc := 33) dX1_startPart_33 (by decide) ?_
    refine jJ_icmp_ne (pc := 34) (tgt := 45) dX1_startPart_34 (by decide) (fun c34 => ?_) (fun c34 => ?_)
    · try simp only [jb_z, jb_nz] at c34
      refine jJ_iload_n (pc := 45) dX1_startPart_45 rfl ?_
      refine jJ_if_ne (pc := 46) (tgt := 63) dX1_startPart_46 (by decide) (fun c46 => ?_) (fun c46 => ?_)
      · try simp only [jb_z, jb_nz] at c46
        refine jJ_aload_n (pc := 63) dX1_startPart_63 rfl ?_
        refine jJ_iload_n (pc := 64) dX1_startPart_64 rfl ?_
        refine jJ_callSd (pc := 65) (as := [_]) dX1_startPart_65 mX1_40 (Nat.le_of_ble_eq_true rfl) (jRm_ok (by omega) (by decide)) (c_isSmall (d := d - 1)) ?_
        refine jJ_if_eq (pc := 68) (tgt := 81) dX1_startPart_68 (by decide) (fun c68 => ?_) (fun c68 => ?_)
        · try simp only [jb_z, jb_nz] at c68
          refine jJ_iload_n (pc := 81) dX1_startPart_81 rfl ?_
          refine jJ_callVd (pc := 82) (as := [_]) dX1_startPart_82 mX1_36 (jRcv_of (by assumption) rfl rfl) (Nat.le_of_ble_eq_true rfl) (jRm_ok (by omega) (by decide)) (c_Maker_put (d := d - 1) ho hr hra hne (by first | exact hl | exact mput_len _ hl)) ?_
          refine jJ_vret (pc := 85) dX1_startPart_85 rfl ?_
          exact ⟨rfl, by subst hs; simp only [spart, greatOf]; (repeat' split) <;> first | rfl | (exfalso; omega), rfl⟩
        · try simp only [jb_z, jb_nz] at c68
          refine jJ_iload_n (pc := 71) dX1_startPart_71 rfl ?_
          refine jJ_bipush (pc := 72) dX1_startPart_72 (by decide) ?_
          refine jJ_isub (pc := 74) dX1_startPart_74 ⟨by omega, by omega⟩ ?_
          refine jJ_bipush (pc := 75) dX1_startPart_75 (by decide) ?_
          refine jJ_iadd (pc := 77) dX1_startPart_77 ⟨by omega, by omega⟩ ?_
          refine jJ_goto (pc := 78) (tgt := 82) dX1_startPart_78 (by decide) ?_
          refine jJ_callVd (pc := 82) (as := [_]) dX1_startPart_82 mX1_36 (jRcv_of (by assumption) rfl rfl) (Nat.le_of_ble_eq_true rfl) (jRm_ok (by omega) (by decide)) (c_Maker_put (d := d - 1) ho hr hra hne (by first | exact hl | exact mput_len _ hl)) ?_
          refine jJ_vret (pc := 85) dX1_startPart_85 rfl ?_
          exact ⟨rfl, by subst hs; simp only [spart, greatOf]; (repeat' split) <;> first | rfl | (exfalso; omega), rfl⟩
      · try simp only [jb_z, jb_nz] at c46
        refine jJ_aload_n (pc := 49) dX1_startPart_49 rfl ?_
        refine jJ_bipush (pc := 50) dX1_startPart_50 (by decide) ?_
        refine jJ_callVd (pc := 52) (as := [_]) dX1_startPart_52 mX1_36 (jRcv_of (by assumption) rfl rfl) (Nat.le_of_ble_eq_true rfl) (jRm_ok (by omega) (by decide)) (c_Maker_put (d := d - 1) ho hr hra hne (by first | exact hl | exact mput_len _ hl)) ?_
        refine jJ_aload_n (pc := 55) dX1_startPart_55 rfl ?_
        refine jJ_iload_n (pc := 56) dX1_startPart_56 rfl ?_
        refine jJ_callVd (pc := 57) (as := [_]) dX1_startPart_57 mX1_36 (jRcv_of (by assumption) rfl rfl) (Nat.le_of_ble_eq_true rfl) (jRm_ok (by omega) (by decide)) (c_Maker_put (d := d - 1) ho hr hra hne (by first | exact hl | exact mput_len _ hl)) ?_
        refine jJ_goto (pc := 60) (tgt := 85) dX1_startPart_60 (by decide) ?_
        refine jJ_vret (pc := 85) dX1_startPart_85 rfl ?_
        exact ⟨rfl, by subst hs; simp only [spart, greatOf]; (repeat' split) <;> first | rfl | (exfalso; omega), rfl⟩
    · try simp only [jb_z, jb_nz] at c34
      refine jJ_aload_n (pc := 37) dX1_startPart_37 rfl ?_
      refine jJ_iload_n (pc := 38) dX1_startPart_38 rfl ?_
      refine jJ_callVd (pc := 39) (as := [_]) dX1_startPart_39 mX1_36 (jRcv_of (by assumption) rfl rfl) (Nat.le_of_ble_eq_true rfl) (jRm_ok (by omega) (by decide)) (c_Maker_put (d := d - 1) ho hr hra hne (by first | exact hl | exact mput_len _ hl)) ?_
      refine jJ_goto (pc := 42) (tgt := 85) dX1_startPart_42 (by decide) ?_
      refine jJ_vret (pc := 85) dX1_startPart_85 rfl ?_
      exact ⟨rfl, by subst hs; simp only [spart, greatOf]; (repeat' split) <;> first | rfl | (exfalso; omega), rfl⟩
  refine jJ_if_eq (pc := 14) (tgt := 27) dX1_startPart_14 (by decide) (fun c14 => ?_) (fun c14 => ?_)
  · simp only [jb_z] at c14
    refine jJ_iload_n (pc := 27) dX1_startPart_27 rfl ?_
    exact key b (by rw [smallOf, if_neg c14])
  · simp only [jb_nz] at c14
    refine jJ_iload_n (pc := 17) dX1_startPart_17 rfl ?_
    refine jJ_bipush (pc := 18) dX1_startPart_18 (by decide) ?_
    refine jJ_isub (pc := 20) dX1_startPart_20 ⟨by omega, by omega⟩ ?_
    refine jJ_bipush (pc := 21) dX1_startPart_21 (by decide) ?_
    refine jJ_iadd (pc := 23) dX1_startPart_23 ⟨by omega, by omega⟩ ?_
    refine jJ_goto (pc := 24) (tgt := 28) dX1_startPart_24 (by decide) ?_
    exact key _ (by rw [smallOf, if_pos c14])
def mstep (mk : Int) (q : (List Int × Int) × Int) (b : Int) : (List Int × Int) × Int :=
  if b = 95 then (q.1, 1) else if q.2 ≠ 0 ∨ (65 ≤ b ∧ b ≤ 90) then (spart q.1 b mk, 0) else (mput q.1 b, q.2)
def mrun (mk : Int) (q : (List Int × Int) × Int) (bs : List Int) : (List Int × Int) × Int := bs.foldl (mstep mk) q
theorem mstep_ok {mk : Int} {q : (List Int × Int) × Int} {c : Int} (b : Int) (h1 : q.1.1.length ≤ 32) (h2 : 0 ≤ q.1.2 ∧ q.1.2 ≤ c) : (mstep mk q b).1.1.length ≤ 32 ∧ 0 ≤ (mstep mk q b).1.2 ∧ (mstep mk q b).1.2 ≤ c + 1 := by
  unfold mstep
  split
  · exact ⟨h1, h2.1, by show q.1.2 ≤ c + 1; omega⟩
  · split
    · exact ⟨spart_len _ _ h1, by show 0 ≤ (spart q.1 b mk).2; rw [spart_2]; omega, by show (spart q.1 b mk).2 ≤ c + 1; rw [spart_2]; omega⟩
    · exact ⟨mput_len _ h1, by show 0 ≤ (mput q.1 b).2; rw [mput_2]; omega, by show (mput q.1 b).2 ≤ c + 1; rw [mput_2]; omega⟩
theorem make_loop {m r q n : Nat} {s e mk : Int} (ho : jK E 1 m) (hr : P m 0 = some r) (hra : jAr E 8 r 32) (hne : m ≠ r) (hq : jAr E 8 q n) (hqo : q ≠ m) (hqr : q ≠ r) (hn : n ≤ 5000) (hd : 2 ≤ d) :
    ∀ (k i : Nat) (w : (List Int × Int) × Int) (z : Option jV), w.1.1.length ≤ 32 → 0 ≤ w.1.2 → w.1.2 ≤ i → i ≤ 5000 → k = (min e (n : Int) - i).toNat →
      jJ E yX1_make.cls cX1_make 8 none (jRm d) (jZ E (jD none (outM I m r (mrun mk w (rowF (I q) i k)).1) P)) 0 0 20 [some (jp m), some (jp q), some (ji s), some (ji e), some (ji mk), some (ji w.2), some (ji (i : Int)), z] [] (outM I m r w.1) P := by
  intro k
  induction k with
  | zero =>
    intro i w z hw1 hw2 hw3 hi hk
    refine jJ_iload (pc := 20) dX1_make_20 rfl ?_
    refine jJ_iload_n (pc := 22) dX1_make_22 rfl ?_
    refine jJ_icmp_ge (pc := 23) (tgt := 91) dX1_make_23 (by decide) (fun c23 => ?_) (fun c23 => ?_)
    · refine jJ_vret (pc := 91) dX1_make_91 rfl ?_
      exact ⟨rfl, rfl, rfl⟩
    · refine jJ_iload (pc := 26) dX1_make_26 rfl ?_
      refine jJ_aload_n (pc := 28) dX1_make_28 rfl ?_
      refine jJ_alen (pc := 29) (t0 := 0) dX1_make_29 hq rfl (by decide) (by decide) ⟨by omega, by omega⟩ ?_
      refine jJ_icmp_ge (pc := 30) (tgt := 91) dX1_make_30 (by decide) (fun c30 => ?_) (fun c30 => ?_)
      · refine jJ_vret (pc := 91) dX1_make_91 rfl ?_
        exact ⟨rfl, rfl, rfl⟩
      · exfalso
        omega
  | succ k ih =>
    intro i w z hw1 hw2 hw3 hi hk
    have hst := mstep_ok (mk := mk) (q := w) (c := (i : Int)) (I q i) hw1 ⟨hw2, hw3⟩
    have step : ∀ z' : Option jV, jJ E yX1_make.cls cX1_make 8 none (jRm d) (jZ E (jD none (outM I m r (mrun mk w (rowF (I q) i (k + 1))).1) P)) 0 0 85 [some (jp m), some (jp q), some (ji s), some (ji e), some (ji mk), some (ji (mstep mk w (I q i)).2), some (ji (i : Int)), z'] [] (outM I m r (mstep mk w (I q i)).1) P := by
      intro z'
      refine jJ_iinc (pc := 85) (ls' := [_, _, _, _, _, _, _, _]) dX1_make_85 rfl ⟨by omega, by omega⟩ rfl ?_
      refine jJ_goto (pc := 88) (tgt := 20) dX1_make_88 (by decide) ?_
      exact ih (i + 1) (mstep mk w (I q i)) z' hst.1 hst.2.1 (by have := hst.2.2; omega) (by omega) (by omega)
    refine jJ_iload (pc := 20) dX1_make_20 rfl ?_
    refine jJ_iload_n (pc := 22) dX1_make_22 rfl ?_
    refine jJ_icmp_ge (pc := 23) (tgt := 91) dX1_make_23 (by decide) (fun c23 => ?_) (fun c23 => ?_)
    · exfalso
      omega
    · refine jJ_iload (pc := 26) dX1_make_26 rfl ?_
      refine jJ_aload_n (pc := 28) dX1_make_28 rfl ?_
      refine jJ_alen (pc := 29) (t0 := 0) dX1_make_29 hq rfl (by decide) (by decide) ⟨by omega, by omega⟩ ?_
      refine jJ_icmp_ge (pc := 30) (tgt := 91) dX1_make_30 (by decide) (fun c30 => ?_) (fun c30 => ?_)
      · exfalso
        omega
      · refine jJ_aload_n (pc := 33) dX1_make_33 rfl ?_
        refine jJ_iload (pc := 34) dX1_make_34 rfl ?_
        refine jJ_bald (pc := 36) dX1_make_36 hq ⟨by omega, by omega⟩ ?_
        rw [Int.toNat_natCast, outM_x I w.1 hqo hqr]
        refine jJ_istore (pc := 37) (ls' := [_, _, _, _, _, _, _, _]) dX1_make_37 (Nat.le_of_ble_eq_true rfl) rfl ?_
        refine jJ_iload (pc := 39) dX1_make_39 rfl ?_
        refine jJ_bipush (pc := 41) dX1_make_41 (by decide) ?_
        refine jJ_icmp_ne (pc := 43) (tgt := 52) dX1_make_43 (by decide) (fun c43 => ?_) (fun c43 => ?_)
        · refine jJ_iload (pc := 52) dX1_make_52 rfl ?_
          refine jJ_if_ne (pc := 54) (tgt := 65) dX1_make_54 (by decide) (fun c54 => ?_) (fun c54 => ?_)
          · refine jJ_aload_n (pc := 65) dX1_make_65 rfl ?_
            refine jJ_iload (pc := 66) dX1_make_66 rfl ?_
            refine jJ_iload (pc := 68) dX1_make_68 rfl ?_
            refine jJ_callVd (pc := 70) (as := [_, _]) dX1_make_70 mX1_32 (jRcv_of ho rfl rfl) (Nat.le_of_ble_eq_true rfl) (jRm_ok (by omega) (by decide)) (c_Maker_startPart (d := d - 1) ho hr hra hne hw1 ⟨hw2, by omega⟩ (by omega)) ?_
            refine jJ_iconst (pc := 73) dX1_make_73 (by decide) ?_
            refine jJ_istore (pc := 74) (ls' := [_, _, _, _, _, _, _, _]) dX1_make_74 (Nat.le_of_ble_eq_true rfl) rfl ?_
            refine jJ_goto (pc := 76) (tgt := 85) dX1_make_76 (by decide) ?_
            have e1 : mstep mk w (I q i) = (spart w.1 (I q i) mk, 0) := by rw [mstep, if_neg (by assumption), if_pos (Or.inl (by assumption))]
            rw [e1] at step
            exact step _
          · refine jJ_iload (pc := 57) dX1_make_57 rfl ?_
            refine jJ_callSd (pc := 59) (as := [_]) dX1_make_59 mX1_28 (Nat.le_of_ble_eq_true rfl) (jRm_ok (by omega) (by decide)) (c_isGreat (d := d - 1)) ?_
            refine jJ_if_eq (pc := 62) (tgt := 79) dX1_make_62 (by decide) (fun c62 => ?_) (fun c62 => ?_)
            · simp only [jb_z] at c62
              refine jJ_aload_n (pc := 79) dX1_make_79 rfl ?_
              refine jJ_iload (pc := 80) dX1_make_80 rfl ?_
              refine jJ_callVd (pc := 82) (as := [_]) dX1_make_82 mX1_36 (jRcv_of ho rfl rfl) (Nat.le_of_ble_eq_true rfl) (jRm_ok (by omega) (by decide)) (c_Maker_put (d := d - 1) ho hr hra hne hw1) ?_
              have e1 : mstep mk w (I q i) = (mput w.1 (I q i), w.2) := by rw [mstep, if_neg (by assumption), if_neg (by omega)]
              rw [e1] at step
              exact step _
            · simp only [jb_nz] at c62
              refine jJ_aload_n (pc := 65) dX1_make_65 rfl ?_
              refine jJ_iload (pc := 66) dX1_make_66 rfl ?_
              refine jJ_iload (pc := 68) dX1_make_68 rfl ?_
              refine jJ_callVd (pc := 70) (as := [_, _]) dX1_make_70 mX1_32 (jRcv_of ho rfl rfl) (Nat.le_of_ble_eq_true rfl) (jRm_ok (by omega) (by decide)) (c_Maker_startPart (d := d - 1) ho hr hra hne hw1 ⟨hw2, by omega⟩ (by omega)) ?_
              refine jJ_iconst (pc := 73) dX1_make_73 (by decide) ?_
              refine jJ_istore (pc := 74) (ls' := [_, _, _, _, _, _, _, _]) dX1_make_74 (Nat.le_of_ble_eq_true rfl) rfl ?_
              refine jJ_goto (pc := 76) (tgt := 85) dX1_make_76 (by decide) ?_
              have e1 : mstep mk w (I q i) = (spart w.1 (I q i) mk, 0) := by rw [mstep, if_neg (by assumption), if_pos (Or.inr c62)]
              rw [e1] at step
              exact step _
        · refine jJ_iconst (pc := 46) dX1_make_46 (by decide) ?_
          refine jJ_istore (pc := 47) (ls' := [_, _, _, _, _, _, _, _]) dX1_make_47 (Nat.le_of_ble_eq_true rfl) rfl ?_
          refine jJ_goto (pc := 49) (tgt := 85) dX1_make_49 (by decide) ?_
          have e1 : mstep mk w (I q i) = (w.1, 1) := by rw [mstep, if_pos (by assumption)]
          rw [e1] at step
          exact step _
/-- what a NAME's bytes are made to: the bytes and how many PARTS -/
def made (mk : Int) (bs : List Int) : List Int × Int := (mrun mk (([], 0), 1) bs).1
theorem c_Maker_make {m r q n : Nat} {s e mk : Int} (ho : jK E 1 m) (hr : P m 0 = some r) (hra : jAr E 8 r 32) (hne : m ≠ r) (hq : jAr E 8 q n) (hqo : q ≠ m) (hqr : q ≠ r) (hn : n ≤ 4000) (hs : s ≤ 4000) (hd : 2 ≤ d) :
    jC E yX1_make cX1_make 8 none d [jp m, jp q, ji s, ji e, ji mk] I P (jD none (outM I m r (made mk (rowF (I q) s.toNat (min e (n : Int) - s.toNat).toNat))) P) := by
  refine jC_intro (by decide +kernel) (by simp [jc, va_rf, Value.category]) (Nat.le_of_ble_eq_true rfl) ?_
  refine jJ_aload_n (pc := 0) dX1_make_0 rfl ?_
  refine jJ_iconst (pc := 1) dX1_make_1 (by decide) ?_
  refine jJ_puti (pc := 2) dX1_make_2 fX1_15w rfl ⟨rfl, rfl⟩ (by assumption) ?_
  refine jJ_aload_n (pc := 5) dX1_make_5 rfl ?_
  refine jJ_iconst (pc := 6) dX1_make_6 (by decide) ?_
  refine jJ_puti (pc := 7) dX1_make_7 fX1_19w rfl ⟨rfl, rfl⟩ (by assumption) ?_
  refine jJ_iconst (pc := 10) dX1_make_10 (by decide) ?_
  refine jJ_istore (pc := 11) (ls' := [_, _, _, _, _, _, _, _]) dX1_make_11 (Nat.le_of_ble_eq_true rfl) rfl ?_
  refine jJ_iconst (pc := 13) dX1_make_13 (by decide) ?_
  refine jJ_iload_n (pc := 14) dX1_make_14 rfl ?_
  rw [outM_clear (o := m) (r := r)]
  refine jJ_max (pc := 15) dX1_make_15 mX1_22 nX1_22 (Nat.le_of_ble_eq_true rfl) (jRm_1 (by omega)) ?_
  refine jJ_istore (pc := 18) (ls' := [_, _, _, _, _, _, _, _]) dX1_make_18 (Nat.le_of_ble_eq_true rfl) rfl ?_
  rw [show max 0 s = ((s.toNat : Nat) : Int) by omega]
  exact make_loop ho hr hra hne hq hqo hqr (by omega) hd _ _ (([], 0), 1) _ (by simp) (by simp) (by show (0 : Int) ≤ _; omega) (by omega) rfl
end JMaker
