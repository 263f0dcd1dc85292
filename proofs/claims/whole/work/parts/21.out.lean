section JOut
variable {E : jE} {I : jI} {P : jP} {d : Nat}
theorem jB_eq (x : Int) : jB x = x.bmod 256 := by
  unfold jB
  rw [Int8.toInt_toInt32, Int32.toInt_toInt8, Int32.toInt_ofInt]
  show ((x.bmod 4294967296).bmod 256) = x.bmod 256
  exact Int.bmod_bmod_of_dvd (by decide)
theorem jB_id {x : Int} (h : -128 ≤ x ∧ x ≤ 127) : jB x = x := by
  rw [jB_eq]
  exact Int.bmod_eq_of_le (by omega) (by omega)
theorem jB_rng (x : Int) : -128 ≤ jB x ∧ jB x ≤ 127 := by
  rw [jB_eq]
  have h1 := Int.le_bmod (x := x) (m := 256) (by decide)
  have h2 := Int.bmod_lt (x := x) (m := 256) (by decide)
  omega
theorem jB_jB (x : Int) : jB (jB x) = jB x := jB_id (jB_rng x)
/-- the row's bytes and its mark, over a memory -/
def outM (I : jI) (o r : Nat) (w : List Int × Int) : jI := fun a k => if a = o ∧ k = 1 then (w.1.length : Int) else if a = o ∧ k = 2 then w.2 else if a = r ∧ k < w.1.length then w.1.getD k 0 else I a k
def oput (w : List Int × Int) (b : Int) : List Int × Int := if w.1.length < 2000 then (w.1 ++ [jB b], w.2) else (w.1, 1)
def oall (w : List Int × Int) (bs : List Int) : List Int × Int := bs.foldl oput w
theorem oput_len {w : List Int × Int} (b : Int) (h : w.1.length ≤ 2000) : (oput w b).1.length ≤ 2000 := by
  unfold oput; split <;> simp <;> omega
theorem oall_len {w : List Int × Int} (bs : List Int) (h : w.1.length ≤ 2000) : (oall w bs).1.length ≤ 2000 := by
  induction bs generalizing w with
  | nil => exact h
  | cons b t ih => exact ih (oput_len b h)
theorem oall_app (w : List Int × Int) (a b : List Int) : oall w (a ++ b) = oall (oall w a) b := List.foldl_append
theorem outM_1 (I : jI) (o r : Nat) (w : List Int × Int) : outM I o r w o 1 = (w.1.length : Int) := by simp [outM]
theorem outM_2 (I : jI) (o r : Nat) (w : List Int × Int) : outM I o r w o 2 = w.2 := by simp [outM]
theorem outM_x (I : jI) {o r : Nat} (w : List Int × Int) {a k : Nat} (h1 : a ≠ o) (h2 : a ≠ r) : outM I o r w a k = I a k := by simp [outM, h1, h2]
theorem outM_put (I : jI) {o r : Nat} (w : List Int × Int) (b : Int) (hne : o ≠ r) (hl : w.1.length < 2000) : jput (jput (outM I o r w) r w.1.length (jB b)) o 1 ((w.1.length : Int) + 1) = outM I o r (oput w b) := by
  funext a k
  simp only [oput, if_pos hl, jput, outM]
  by_cases ha : a = o
  · subst ha
    by_cases hk : k = 1
    · subst hk; simp
    · simp [hk, hne]
  · by_cases hr : a = r
    · subst hr
      simp only [ha, false_and, if_false, true_and]
      by_cases hk : k = w.1.length
      · subst hk; simp
      · by_cases hk2 : k < w.1.length
        · simp [hk, hk2, Nat.lt_succ_of_lt hk2, List.getD_eq_getElem?_getD, List.getElem?_append_left hk2]
        · have : ¬ k < w.1.length + 1 := by omega
          simp [hk, hk2, this]
    · simp [ha, hr]
theorem outM_spill (I : jI) {o r : Nat} (w : List Int × Int) (b : Int) (hl : ¬ w.1.length < 2000) : jput (outM I o r w) o 2 1 = outM I o r (oput w b) := by
  funext a k
  simp only [oput, if_neg hl, jput, outM]
  by_cases ha : a = o
  · subst ha
    by_cases hk : k = 1
    · subst hk; simp
    · by_cases hk2 : k = 2
      · subst hk2; simp
      · simp [hk, hk2]
  · simp [ha]
theorem outM_clear (I : jI) {o r : Nat} : jput (jput I o 1 0) o 2 0 = outM I o r ([], 0) := by
  funext a k
  simp only [jput, outM]
  by_cases ha : a = o
  · subst ha
    by_cases hk : k = 1
    · subst hk; simp
    · simp [hk]
  · simp [ha]
theorem outM_outM (I : jI) {o r : Nat} (w w' : List Int × Int) (hne : o ≠ r) (h : w.1.length ≤ w'.1.length) : outM (outM I o r w) o r w' = outM I o r w' := by
  funext a k
  simp only [outM]
  by_cases ha : a = o
  · subst ha
    by_cases hk : k = 1
    · simp [hk]
    · by_cases hk2 : k = 2
      · simp [hk2]
      · simp [hk, hk2, hne]
  · by_cases hr : a = r
    · subst hr
      simp only [ha, false_and, if_false, true_and]
      by_cases hk2 : k < w'.1.length
      · simp [hk2]
      · have : ¬ k < w.1.length := by omega
        simp [hk2, this]
    · simp [ha, hr]
theorem c_Out_put {o r : Nat} {b : Int} {w : List Int × Int} (ho : jK E 2 o) (hr : P o 0 = some r) (hra : jAr E 8 r 2000) (hne : o ≠ r) (hl : w.1.length ≤ 2000) : jC E yX2_put cX2_put 2 none d [jp o, ji b] (outM I o r w) P (jD none (outM I o r (oput w b)) P) := by
  refine jC_intro (by decide +kernel) (by simp [jc, va_rf, Value.category]) (Nat.le_of_ble_eq_true rfl) ?_
  refine jJ_aload_n (pc := 0) dX2_put_0 rfl ?_
  refine jJ_geti (pc := 1) dX2_put_1 fX2_15 rfl (by assumption) ?_
  rw [outM_1]
  refine jJ_aload_n (pc := 4) dX2_put_4 rfl ?_
  refine jJ_getr (pc := 5) dX2_put_5 fX2_9 rfl (by assumption) (by assumption) ?_
  refine jJ_alen (pc := 8) (t0 := 0) dX2_put_8 (by assumption) rfl (by decide) (by decide) (by decide) ?_
  refine jJ_icmp_ge (pc := 9) (tgt := 36) dX2_put_9 (by decide) (fun c9 => ?_) (fun c9 => ?_)
  · refine jJ_aload_n (pc := 36) dX2_put_36 rfl ?_
    refine jJ_iconst (pc := 37) dX2_put_37 (by decide) ?_
    refine jJ_puti (pc := 38) dX2_put_38 fX2_19w rfl ⟨by decide, by decide⟩ (by assumption) ?_
    refine jJ_vret (pc := 41) dX2_put_41 rfl ?_
    exact ⟨rfl, outM_spill I w b (by omega), rfl⟩
  · refine jJ_aload_n (pc := 12) dX2_put_12 rfl ?_
    refine jJ_getr (pc := 13) dX2_put_13 fX2_9 rfl (by assumption) (by assumption) ?_
    refine jJ_aload_n (pc := 16) dX2_put_16 rfl ?_
    refine jJ_geti (pc := 17) dX2_put_17 fX2_15 rfl (by assumption) ?_
    rw [outM_1]
    refine jJ_iload_n (pc := 20) dX2_put_20 rfl ?_
    refine jJ_i2b (pc := 21) dX2_put_21 ?_
    refine jJ_bast (pc := 22) dX2_put_22 (by assumption) ⟨by omega, by omega⟩ ?_
    refine jJ_aload_n (pc := 23) dX2_put_23 rfl ?_
    refine jJ_dup (pc := 24) dX2_put_24 rfl ?_
    refine jJ_geti (pc := 25) dX2_put_25 fX2_15 rfl (by assumption) ?_
    rw [jput_a (outM I o r w) hne, outM_1]
    refine jJ_iconst (pc := 28) dX2_put_28 (by decide) ?_
    refine jJ_iadd (pc := 29) dX2_put_29 ⟨by omega, by omega⟩ ?_
    refine jJ_puti (pc := 30) dX2_put_30 fX2_15w rfl ⟨rfl, rfl⟩ (by assumption) ?_
    refine jJ_goto (pc := 33) (tgt := 41) dX2_put_33 (by decide) ?_
    refine jJ_vret (pc := 41) dX2_put_41 rfl ?_
    refine ⟨rfl, ?_, rfl⟩
    rw [Int.toNat_natCast, jB_jB]
    exact outM_put I w b hne (by omega)
theorem c_Out_clear {o r : Nat} (ho : jK E 2 o) : jC E yX2_clear cX2_clear 1 none d [jp o] I P (jD none (outM I o r ([], 0)) P) := by
  refine jC_intro (by decide +kernel) (by simp [jc, va_rf, Value.category]) (Nat.le_of_ble_eq_true rfl) ?_
  refine jJ_aload_n (pc := 0) dX2_clear_0 rfl ?_
  refine jJ_iconst (pc := 1) dX2_clear_1 (by decide) ?_
  refine jJ_puti (pc := 2) dX2_clear_2 fX2_15w rfl ⟨rfl, rfl⟩ (by assumption) ?_
  refine jJ_aload_n (pc := 5) dX2_clear_5 rfl ?_
  refine jJ_iconst (pc := 6) dX2_clear_6 (by decide) ?_
  refine jJ_puti (pc := 7) dX2_clear_7 fX2_19w rfl ⟨by decide, by decide⟩ (by assumption) ?_
  refine jJ_vret (pc := 10) dX2_clear_10 rfl ?_
  exact ⟨rfl, outM_clear I, rfl⟩
/-- k of a row's numbers, from the i-th on -/
def rowF (f : Nat → Int) : Nat → Nat → List Int
  | _, 0 => []
  | i, k + 1 => f i :: rowF f (i + 1) k
theorem putAll_loop {o r q n : Nat} {s e : Int} (ho : jK E 2 o) (hr : P o 0 = some r) (hra : jAr E 8 r 2000) (hne : o ≠ r) (hq : jAr E 8 q n) (hqo : q ≠ o) (hqr : q ≠ r) (hn : n ≤ 5000) (hd : 1 ≤ d) :
    ∀ (k i : Nat) (w : List Int × Int), w.1.length ≤ 2000 → i ≤ 5000 → k = (min e (n : Int) - i).toNat → jJ E yX2_putAll.cls cX2_putAll 5 none (jRm d) (jZ E (jD none (outM I o r (oall w (rowF (I q) i k))) P)) 0 0 7 [some (jp o), some (jp q), some (ji s), some (ji e), some (ji (i : Int))] [] (outM I o r w) P := by
  intro k
  induction k with
  | zero =>
    intro i w hw hi hk
    refine jJ_iload (pc := 7) dX2_putAll_7 rfl ?_
    refine jJ_iload_n (pc := 9) dX2_putAll_9 rfl ?_
    refine jJ_icmp_ge (pc := 10) (tgt := 34) dX2_putAll_10 (by decide) (fun c10 => ?_) (fun c10 => ?_)
    · refine jJ_vret (pc := 34) dX2_putAll_34 rfl ?_
      exact ⟨rfl, rfl, rfl⟩
    · refine jJ_iload (pc := 13) dX2_putAll_13 rfl ?_
      refine jJ_aload_n (pc := 15) dX2_putAll_15 rfl ?_
      refine jJ_alen (pc := 16) (t0 := 0) dX2_putAll_16 hq rfl (by decide) (by decide) ⟨by omega, by omega⟩ ?_
      refine jJ_icmp_ge (pc := 17) (tgt := 34) dX2_putAll_17 (by decide) (fun c17 => ?_) (fun c17 => ?_)
      · refine jJ_vret (pc := 34) dX2_putAll_34 rfl ?_
        exact ⟨rfl, rfl, rfl⟩
      · exfalso
        omega
  | succ k ih =>
    intro i w hw hi hk
    refine jJ_iload (pc := 7) dX2_putAll_7 rfl ?_
    refine jJ_iload_n (pc := 9) dX2_putAll_9 rfl ?_
    refine jJ_icmp_ge (pc := 10) (tgt := 34) dX2_putAll_10 (by decide) (fun c10 => ?_) (fun c10 => ?_)
    · exfalso
      omega
    · refine jJ_iload (pc := 13) dX2_putAll_13 rfl ?_
      refine jJ_aload_n (pc := 15) dX2_putAll_15 rfl ?_
      refine jJ_alen (pc := 16) (t0 := 0) dX2_putAll_16 hq rfl (by decide) (by decide) ⟨by omega, by omega⟩ ?_
      refine jJ_icmp_ge (pc := 17) (tgt := 34) dX2_putAll_17 (by decide) (fun c17 => ?_) (fun c17 => ?_)
      · exfalso
        omega
      · refine jJ_aload_n (pc := 20) dX2_putAll_20 rfl ?_
        refine jJ_aload_n (pc := 21) dX2_putAll_21 rfl ?_
        refine jJ_iload (pc := 22) dX2_putAll_22 rfl ?_
        refine jJ_bald (pc := 24) dX2_putAll_24 hq ⟨by omega, by omega⟩ ?_
        rw [Int.toNat_natCast, outM_x I w hqo hqr]
        refine jJ_callVd (pc := 25) (as := [_]) dX2_putAll_25 mX2_29 (jRcv_of ho rfl rfl) (Nat.le_of_ble_eq_true rfl) (jRm_ok (by omega) (by decide)) (c_Out_put (d := d - 1) ho hr hra hne hw) ?_
        refine jJ_iinc (pc := 28) (ls' := [_, _, _, _, _]) dX2_putAll_28 rfl ⟨by omega, by omega⟩ rfl ?_
        refine jJ_goto (pc := 31) (tgt := 7) dX2_putAll_31 (by decide) ?_
        exact ih (i + 1) (oput w (I q i)) (oput_len _ hw) (by omega) (by omega)
theorem c_Out_putAll {o r q n : Nat} {s e : Int} {w : List Int × Int} (ho : jK E 2 o) (hr : P o 0 = some r) (hra : jAr E 8 r 2000) (hne : o ≠ r) (hq : jAr E 8 q n) (hqo : q ≠ o) (hqr : q ≠ r) (hn : n ≤ 4000) (hs : s ≤ 4000) (hw : w.1.length ≤ 2000) (hd : 1 ≤ d) :
    jC E yX2_putAll cX2_putAll 5 none d [jp o, jp q, ji s, ji e] (outM I o r w) P (jD none (outM I o r (oall w (rowF (I q) s.toNat (min e (n : Int) - s.toNat).toNat))) P) := by
  refine jC_intro (by decide +kernel) (by simp [jc, va_rf, Value.category]) (Nat.le_of_ble_eq_true rfl) ?_
  refine jJ_iconst (pc := 0) dX2_putAll_0 (by decide) ?_
  refine jJ_iload_n (pc := 1) dX2_putAll_1 rfl ?_
  refine jJ_max (pc := 2) dX2_putAll_2 mX2_23 nX2_23 (Nat.le_of_ble_eq_true rfl) (jRm_1 hd) ?_
  refine jJ_istore (pc := 5) (ls' := [_, _, _, _, _]) dX2_putAll_5 (Nat.le_of_ble_eq_true rfl) rfl ?_
  rw [show max 0 s = ((s.toNat : Nat) : Int) by omega]
  exact putAll_loop ho hr hra hne hq hqo hqr (by omega) hd _ _ w hw (by omega) rfl
def gapB (c dp : Int) : List Int := if c = 1 then [32] else if c = 2 then 10 :: List.replicate (2 * dp).toNat 32 else []
theorem putGap_loop {o r : Nat} {c dp : Int} (ho : jK E 2 o) (hr : P o 0 = some r) (hra : jAr E 8 r 2000) (hne : o ≠ r) (hdp : 0 ≤ dp ∧ dp ≤ 1000) (hd : 1 ≤ d) :
    ∀ (k i : Nat) (w : List Int × Int), w.1.length ≤ 2000 → (i : Int) + k = 2 * dp → jJ E yX2_putGap.cls cX2_putGap 4 none (jRm d) (jZ E (jD none (outM I o r (oall w (List.replicate k 32))) P)) 0 0 27 [some (jp o), some (ji c), some (ji dp), some (ji (i : Int))] [] (outM I o r w) P := by
  intro k
  induction k with
  | zero =>
    intro i w hw hk
    refine jJ_iload_n (pc := 27) dX2_putGap_27 rfl ?_
    refine jJ_iconst (pc := 28) dX2_putGap_28 (by decide) ?_
    refine jJ_iload_n (pc := 29) dX2_putGap_29 rfl ?_
    refine jJ_imul (pc := 30) dX2_putGap_30 ⟨by omega, by omega⟩ ?_
    refine jJ_icmp_ge (pc := 31) (tgt := 46) dX2_putGap_31 (by decide) (fun c31 => ?_) (fun c31 => ?_)
    · refine jJ_vret (pc := 46) dX2_putGap_46 rfl ?_
      exact ⟨rfl, rfl, rfl⟩
    · exfalso
      omega
  | succ k ih =>
    intro i w hw hk
    refine jJ_iload_n (pc := 27) dX2_putGap_27 rfl ?_
    refine jJ_iconst (pc := 28) dX2_putGap_28 (by decide) ?_
    refine jJ_iload_n (pc := 29) dX2_putGap_29 rfl ?_
    refine jJ_imul (pc := 30) dX2_putGap_30 ⟨by omega, by omega⟩ ?_
    refine jJ_icmp_ge (pc := 31) (tgt := 46) dX2_putGap_31 (by decide) (fun c31 => ?_) (fun c31 => ?_)
    · exfalso
      omega
    · refine jJ_aload_n (pc := 34) dX2_putGap_34 rfl ?_
      refine jJ_bipush (pc := 35) dX2_putGap_35 (by decide) ?_
      refine jJ_callVd (pc := 37) (as := [_]) dX2_putGap_37 mX2_29 (jRcv_of ho rfl rfl) (Nat.le_of_ble_eq_true rfl) (jRm_ok (by omega) (by decide)) (c_Out_put (d := d - 1) ho hr hra hne hw) ?_
      refine jJ_iinc (pc := 40) (ls' := [_, _, _, _]) dX2_putGap_40 rfl ⟨by omega, by omega⟩ rfl ?_
      refine jJ_goto (pc := 43) (tgt := 27) dX2_putGap_43 (by decide) ?_
      exact ih (i + 1) (oput w 32) (oput_len _ hw) (by omega)
theorem c_Out_putGap {o r : Nat} {c dp : Int} {w : List Int × Int} (ho : jK E 2 o) (hr : P o 0 = some r) (hra : jAr E 8 r 2000) (hne : o ≠ r) (hdp : 0 ≤ dp ∧ dp ≤ 1000) (hw : w.1.length ≤ 2000) (hd : 1 ≤ d) :
    jC E yX2_putGap cX2_putGap 4 none d [jp o, ji c, ji dp] (outM I o r w) P (jD none (outM I o r (oall w (gapB c dp))) P) := by
  refine jC_intro (by decide +kernel) (by simp [jc, va_rf, Value.category]) (Nat.le_of_ble_eq_true rfl) ?_
  refine jJ_iload_n (pc := 0) dX2_putGap_0 rfl ?_
  refine jJ_iconst (pc := 1) dX2_putGap_1 (by decide) ?_
  refine jJ_icmp_ne (pc := 2) (tgt := 14) dX2_putGap_2 (by decide) (fun c2 => ?_) (fun c2 => ?_)
  · refine jJ_iload_n (pc := 14) dX2_putGap_14 rfl ?_
    refine jJ_iconst (pc := 15) dX2_putGap_15 (by decide) ?_
    refine jJ_icmp_ne (pc := 16) (tgt := 46) dX2_putGap_16 (by decide) (fun c16 => ?_) (fun c16 => ?_)
    · refine jJ_vret (pc := 46) dX2_putGap_46 rfl ?_
      exact ⟨rfl, by rw [gapB, if_neg (by assumption), if_neg (by assumption)]; rfl, rfl⟩
    · refine jJ_aload_n (pc := 19) dX2_putGap_19 rfl ?_
      refine jJ_bipush (pc := 20) dX2_putGap_20 (by decide) ?_
      refine jJ_callVd (pc := 22) (as := [_]) dX2_putGap_22 mX2_29 (jRcv_of ho rfl rfl) (Nat.le_of_ble_eq_true rfl) (jRm_ok (by omega) (by decide)) (c_Out_put (d := d - 1) ho hr hra hne hw) ?_
      refine jJ_iconst (pc := 25) dX2_putGap_25 (by decide) ?_
      refine jJ_istore_n (pc := 26) (ls' := [_, _, _, _]) dX2_putGap_26 (Nat.le_of_ble_eq_true rfl) rfl ?_
      rw [gapB, if_neg (by omega), if_pos (by omega)]
      exact putGap_loop ho hr hra hne hdp hd (2 * dp).toNat 0 (oput w 10) (oput_len _ hw) (by omega)
  · refine jJ_aload_n (pc := 5) dX2_putGap_5 rfl ?_
    refine jJ_bipush (pc := 6) dX2_putGap_6 (by decide) ?_
    refine jJ_callVd (pc := 8) (as := [_]) dX2_putGap_8 mX2_29 (jRcv_of ho rfl rfl) (Nat.le_of_ble_eq_true rfl) (jRm_ok (by omega) (by decide)) (c_Out_put (d := d - 1) ho hr hra hne hw) ?_
    refine jJ_goto (pc := 11) (tgt := 46) dX2_putGap_11 (by decide) ?_
    refine jJ_vret (pc := 46) dX2_putGap_46 rfl ?_
    exact ⟨rfl, by rw [gapB, if_pos (by assumption)]; rfl, rfl⟩
end JOut
