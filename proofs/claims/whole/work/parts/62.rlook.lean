section JRP
variable {E : jE} {I : jI} {P : jP} {d m n : Nat} {a : Nat → Nat} {s : Nat → Int} {ts : List T5}
theorem su_at (s : Nat → Int) (k : Nat) (v : Int) (j : Nat) : su s k v j = if j = k then v else s j := rfl
/-- the reference's sort of a TOKEN -/
def srt (g : Int) : Int := if g = 2 then 1 else if g = 1 ∨ (3 ≤ g ∧ g ≤ 6) then 0 else if g = 7 ∨ g = 8 then -1 else 2
/-- a row of the TOKENS that are read -/
def rwT (h : T5 → Int) (ts : List T5) (f : Nat → Int) : Nat → Int := fun k => if 2412 ≤ k ∧ k < 2412 + ts.length then h (ts.getD (k - 2412) (0, 0, 0, 0, 0)) else f k
theorem rwT_add {h : T5 → Int} {ts : List T5} {t : T5} {f : Nat → Int} {k : Nat} : rwT h (ts ++ [t]) f k = if k = 2412 + ts.length then h t else rwT h ts f k := by
  unfold rwT
  simp only [List.length_append, List.length_cons, List.length_nil, getD_app]
  by_cases hk : k = 2412 + ts.length
  · subst hk
    simp
  · by_cases h2 : 2412 ≤ k ∧ k < 2412 + ts.length
    · rw [if_pos (by omega), if_neg hk, if_pos h2, if_pos (by omega)]
    · rw [if_neg (by omega), if_neg hk, if_neg h2]
/-- the reference's memory while it reads: its numbers 3, 4, 22 to 27, the STATEMENTS' number (s 10), the TOKENS -/
def rfM (I : jI) (m : Nat) (a : Nat → Nat) (s : Nat → Int) (ts : List T5) : jI := fun b k =>
  if b = m ∧ (k = 3 ∨ k = 4 ∨ (22 ≤ k ∧ k ≤ 27)) then s k
  else if b = a 9 ∧ k = 12 then (ts.length : Int)
  else if b = a 10 ∧ k = 12 then s 10
  else if b = a 11 then rwT (fun t => t.1) ts (I b) k
  else if b = a 12 then rwT (fun t => t.2.1 - t.1) ts (I b) k
  else if b = a 13 then rwT (fun t => srt t.2.2.1) ts (I b) k
  else if b = a 14 then rwT (fun t => t.2.2.2.1) ts (I b) k
  else if b = a 15 then rwT (fun t => t.2.2.2.2) ts (I b) k
  else I b k
theorem rfM_g {k : Nat} (h : k = 3 ∨ k = 4 ∨ (22 ≤ k ∧ k ≤ 27)) : rfM I m a s ts m k = s k := by simp [rfM, h]
theorem rfM_p {k : Nat} {v : Int} (h : k = 3 ∨ k = 4 ∨ (22 ≤ k ∧ k ≤ 27)) : jput (rfM I m a s ts) m k v = rfM I m a (su s k v) ts := by
  funext b j
  have h10 : su s k v 10 = s 10 := by unfold su; rw [if_neg (by omega)]
  by_cases hb : b = m
  · subst hb
    by_cases hj : j = k
    · subst hj; rw [jput_s, rfM_g h, su_s]
    · rw [jput_k _ hj]
      have hs : su s k v j = s j := by unfold su; rw [if_neg hj]
      simp only [rfM, h10, hs]
  · rw [jput_a _ hb]; simp only [rfM, hb, false_and, if_false, h10]
theorem rfM_g3 : rfM I m a s ts m 3 = s 3 := rfM_g (by decide)
theorem rfM_g4 : rfM I m a s ts m 4 = s 4 := rfM_g (by decide)
theorem rfM_g22 : rfM I m a s ts m 22 = s 22 := rfM_g (by decide)
theorem rfM_g23 : rfM I m a s ts m 23 = s 23 := rfM_g (by decide)
theorem rfM_g24 : rfM I m a s ts m 24 = s 24 := rfM_g (by decide)
theorem rfM_g25 : rfM I m a s ts m 25 = s 25 := rfM_g (by decide)
theorem rfM_g26 : rfM I m a s ts m 26 = s 26 := rfM_g (by decide)
theorem rfM_g27 : rfM I m a s ts m 27 = s 27 := rfM_g (by decide)
theorem rfM_p3 {v : Int} : jput (rfM I m a s ts) m 3 v = rfM I m a (su s 3 v) ts := rfM_p (by decide)
theorem rfM_p4 {v : Int} : jput (rfM I m a s ts) m 4 v = rfM I m a (su s 4 v) ts := rfM_p (by decide)
theorem rfM_p22 {v : Int} : jput (rfM I m a s ts) m 22 v = rfM I m a (su s 22 v) ts := rfM_p (by decide)
theorem rfM_p23 {v : Int} : jput (rfM I m a s ts) m 23 v = rfM I m a (su s 23 v) ts := rfM_p (by decide)
theorem rfM_p24 {v : Int} : jput (rfM I m a s ts) m 24 v = rfM I m a (su s 24 v) ts := rfM_p (by decide)
theorem rfM_p25 {v : Int} : jput (rfM I m a s ts) m 25 v = rfM I m a (su s 25 v) ts := rfM_p (by decide)
theorem rfM_p26 {v : Int} : jput (rfM I m a s ts) m 26 v = rfM I m a (su s 26 v) ts := rfM_p (by decide)
theorem rfM_p27 {v : Int} : jput (rfM I m a s ts) m 27 v = rfM I m a (su s 27 v) ts := rfM_p (by decide)
theorem rfM_cg {s' : Nat → Int} (h : ∀ k, (k = 3 ∨ k = 4 ∨ k = 10 ∨ (22 ≤ k ∧ k ≤ 27)) → s k = s' k) : rfM I m a s ts = rfM I m a s' ts := by
  funext b k
  have h10 := h 10 (by decide)
  by_cases hk : k = 3 ∨ k = 4 ∨ (22 ≤ k ∧ k ≤ 27)
  · have := h k (by omega)
    simp only [rfM, h10, this]
  · simp only [rfM, h10, hk, and_false, if_false]
theorem rfM_x {b : Nat} (h0 : b ≠ m) (h9 : b ≠ a 9) (h10 : b ≠ a 10) (h11 : b ≠ a 11) (h12 : b ≠ a 12) (h13 : b ≠ a 13) (h14 : b ≠ a 14) (h15 : b ≠ a 15) : rfM I m a s ts b = I b := by
  funext k
  simp [rfM, h0, h9, h10, h11, h12, h13, h14, h15]
theorem rfM_6 (hR : RfL E P m a) : rfM I m a s ts (a 6) = I (a 6) := rfM_x hR.n6 (hR.d (by decide) (by decide) (by decide)) (hR.d (by decide) (by decide) (by decide)) (hR.d (by decide) (by decide) (by decide)) (hR.d (by decide) (by decide) (by decide)) (hR.d (by decide) (by decide) (by decide)) (hR.d (by decide) (by decide) (by decide)) (hR.d (by decide) (by decide) (by decide))
theorem rfM_7 (hR : RfL E P m a) : rfM I m a s ts (a 7) = I (a 7) := rfM_x hR.n7 (hR.d (by decide) (by decide) (by decide)) (hR.d (by decide) (by decide) (by decide)) (hR.d (by decide) (by decide) (by decide)) (hR.d (by decide) (by decide) (by decide)) (hR.d (by decide) (by decide) (by decide)) (hR.d (by decide) (by decide) (by decide)) (hR.d (by decide) (by decide) (by decide))
theorem rfM_9 (hR : RfL E P m a) : rfM I m a s ts (a 9) 12 = (ts.length : Int) := by simp [rfM, hR.n9]
theorem rfM_10 (hR : RfL E P m a) : rfM I m a s ts (a 10) 12 = s 10 := by
  have h1 : a 10 ≠ a 9 := hR.d (by decide) (by decide) (by decide)
  simp [rfM, hR.n10, h1]
theorem rfM_p10 {v : Int} (hR : RfL E P m a) : jput (rfM I m a s ts) (a 10) 12 v = rfM I m a (su s 10 v) ts := by
  have h1 : a 10 ≠ a 9 := hR.d (by decide) (by decide) (by decide)
  have n10 := hR.n10
  funext b j
  by_cases hb : b = a 10
  · subst hb
    by_cases hj : j = 12
    · subst hj; rw [jput_s, rfM_10 hR, su_s]
    · rw [jput_k _ hj]
      simp only [rfM, n10, h1, hj, and_false, false_and, if_false]
  · rw [jput_a _ hb]
    simp only [rfM, hb, false_and, if_false]
    by_cases hq : b = m ∧ (j = 3 ∨ j = 4 ∨ (22 ≤ j ∧ j ≤ 27))
    · rw [if_pos hq, if_pos hq, su_at, if_neg (by omega)]
    · rw [if_neg hq, if_neg hq]
/-- a TOKEN comes to the others -/
theorem rfM_add {t : T5} (hR : RfL E P m a) : jput (jput (jput (jput (jput (jput (rfM I m a s ts) (a 11) (2412 + ts.length) t.1) (a 12) (2412 + ts.length) (t.2.1 - t.1)) (a 13) (2412 + ts.length) (srt t.2.2.1)) (a 14) (2412 + ts.length) t.2.2.2.1) (a 15) (2412 + ts.length) t.2.2.2.2) (a 9) 12 ((ts.length : Int) + 1) = rfM I m a s (ts ++ [t]) := by
  have d1 : ∀ {i j : Nat}, i ∈ rfK → j ∈ rfK → i ≠ j → a i ≠ a j := fun h1 h2 h3 => hR.d h1 h2 h3
  funext b k
  by_cases h0 : b = m
  · subst h0
    have q9 := Ne.symm hR.n9
    have q11 := Ne.symm hR.n11
    have q12 := Ne.symm hR.n12
    have q13 := Ne.symm hR.n13
    have q14 := Ne.symm hR.n14
    have q15 := Ne.symm hR.n15
    simp only [jput, rfM, q9, q11, q12, q13, q14, q15, false_and, if_false]
  · by_cases h9 : b = a 9
    · subst h9
      have e11 := d1 (i := 9) (j := 11) (by decide) (by decide) (by decide)
      have e12 := d1 (i := 9) (j := 12) (by decide) (by decide) (by decide)
      have e13 := d1 (i := 9) (j := 13) (by decide) (by decide) (by decide)
      have e14 := d1 (i := 9) (j := 14) (by decide) (by decide) (by decide)
      have e15 := d1 (i := 9) (j := 15) (by decide) (by decide) (by decide)
      have e10 := d1 (i := 9) (j := 10) (by decide) (by decide) (by decide)
      simp only [jput, rfM, h0, e10, e11, e12, e13, e14, e15, false_and, if_false, true_and]
      by_cases hk : k = 12
      · simp [hk]
      · simp [hk]
    · by_cases h10 : b = a 10
      · subst h10
        have e11 := d1 (i := 10) (j := 11) (by decide) (by decide) (by decide)
        have e12 := d1 (i := 10) (j := 12) (by decide) (by decide) (by decide)
        have e13 := d1 (i := 10) (j := 13) (by decide) (by decide) (by decide)
        have e14 := d1 (i := 10) (j := 14) (by decide) (by decide) (by decide)
        have e15 := d1 (i := 10) (j := 15) (by decide) (by decide) (by decide)
        simp only [jput, rfM, h0, h9, e11, e12, e13, e14, e15, false_and, if_false, true_and]
      · by_cases h11 : b = a 11
        · subst h11
          have e12 := d1 (i := 11) (j := 12) (by decide) (by decide) (by decide)
          have e13 := d1 (i := 11) (j := 13) (by decide) (by decide) (by decide)
          have e14 := d1 (i := 11) (j := 14) (by decide) (by decide) (by decide)
          have e15 := d1 (i := 11) (j := 15) (by decide) (by decide) (by decide)
          simp only [jput, rfM, h0, h9, h10, e12, e13, e14, e15, false_and, if_false, true_and, if_true, rwT_add]
        · by_cases h12 : b = a 12
          · subst h12
            have e13 := d1 (i := 12) (j := 13) (by decide) (by decide) (by decide)
            have e14 := d1 (i := 12) (j := 14) (by decide) (by decide) (by decide)
            have e15 := d1 (i := 12) (j := 15) (by decide) (by decide) (by decide)
            simp only [jput, rfM, h0, h9, h10, h11, e13, e14, e15, false_and, if_false, true_and, if_true, rwT_add]
          · by_cases h13 : b = a 13
            · subst h13
              have e14 := d1 (i := 13) (j := 14) (by decide) (by decide) (by decide)
              have e15 := d1 (i := 13) (j := 15) (by decide) (by decide) (by decide)
              simp only [jput, rfM, h0, h9, h10, h11, h12, e14, e15, false_and, if_false, true_and, if_true, rwT_add]
            · by_cases h14 : b = a 14
              · subst h14
                have e15 := d1 (i := 14) (j := 15) (by decide) (by decide) (by decide)
                simp only [jput, rfM, h0, h9, h10, h11, h12, h13, e15, false_and, if_false, true_and, if_true, rwT_add]
              · by_cases h15 : b = a 15
                · subst h15
                  simp only [jput, rfM, h0, h9, h10, h11, h12, h13, h14, false_and, if_false, true_and, if_true, rwT_add]
                · simp only [jput, rfM, h0, h9, h10, h11, h12, h13, h14, h15, false_and, if_false]
/-- the bytes that are read -/
def gB (I : jI) (a : Nat → Nat) : Nat → Int := fun k => I (a 6) (9600 + k)
def byN (g : Nat → Int) (n : Nat) (k : Int) : Int := if k < (n : Int) then g k.toNat else 0
theorem r_byR {k : Int} (hR : RfL E P m a) (hn : I (a 7) 12 = (n : Int)) (hn2 : n ≤ 800) (hk : 0 ≤ k) : jC E yX7_byteAt cX7_byteAt 3 (some .int) d [jp m, ji 12, ji k] (rfM I m a s ts) P (jD (some (ji (byN (gB I a) n k))) (rfM I m a s ts) P) := by
  have e7 : rfM I m a s ts (a 7) ((12 : Int).toNat) = (n : Int) := by rw [rfM_7 hR]; exact hn
  refine jC_post (r_byteAt hR ⟨by decide, by decide⟩ hk (by rw [e7]; omega)) ?_ rfl
  unfold rBy byN gB
  rw [e7, rfM_6 hR]
  rw [show (800 * 12 + k).toNat = 9600 + k.toNat by omega]
theorem byN_in {g : Nat → Int} {t : Nat} (h : t < n) : byN g n (t : Int) = g t := by rw [byN, if_pos (by omega), Int.toNat_natCast]
theorem byN_out {g : Nat → Int} {k : Int} (h : (n : Int) ≤ k) : byN g n k = 0 := by rw [byN, if_neg (by omega)]
def lk (s : Nat → Int) (T z w : Int) : Nat → Int := su (su (su s 23 T) 24 z) 25 w
theorem lk_23 {s : Nat → Int} {T z w : Int} : lk s T z w 23 = T := rfl
theorem lk_24 {s : Nat → Int} {T z w : Int} : lk s T z w 24 = z := rfl
theorem lk_25 {s : Nat → Int} {T z w : Int} : lk s T z w 25 = w := rfl
theorem lk_p24 {s : Nat → Int} {T z w v : Int} : su (lk s T z w) 24 v = lk s T v w := by
  funext j; simp only [lk, su_at]; (repeat' split) <;> first | rfl | omega
theorem lk_p25 {s : Nat → Int} {T z w v : Int} : su (lk s T z w) 25 v = lk s T z v := by
  funext j; simp only [lk, su_at]; (repeat' split) <;> first | rfl | omega
theorem lk_0 {s : Nat → Int} {T z : Int} : su (su s 23 T) 24 z = lk s T z (s 25) := by
  funext j; simp only [lk, su_at]; (repeat' split) <;> first | rfl | omega | (subst_vars; rfl)
theorem su_su0 (s : Nat → Int) (k : Nat) (v w : Int) : su (su s k v) k w = su s k w := by funext j; simp only [su]; split <;> rfl
/-- the blanks are passed over -/
theorem look_skip {Z : Code → List Frame → Array Value → State → State → Prop} {T : Nat} (hR : RfL E P m a) (hn : I (a 7) 12 = (n : Int)) (hn2 : n ≤ 800) (hd : 1 ≤ d) (kk : jJ E yX7_look.cls cX7_look 2 none (jRm d) Z 0 0 65 [some (jp m), none] [] (rfM I m a (su s 23 (T : Int)) ts) P) :
    ∀ (k t : Nat), k = n - t → t ≤ 800 → runW isBlB (gB I a) k t = T → jJ E yX7_look.cls cX7_look 2 none (jRm d) Z 0 0 8 [some (jp m), none] [] (rfM I m a (su s 23 (t : Int)) ts) P := by
  have e7 : ∀ s ts, rfM I m a s ts (a 7) ((12 : Int).toNat) = (n : Int) := fun s ts => by rw [rfM_7 hR]; exact hn
  intro k
  induction k with
  | zero =>
    intro t hk ht hT
    refine jJ_aload_n (pc := 8) dX7_look_8 rfl ?_
    refine jJ_geti (pc := 9) dX7_look_9 fX7_91 rfl hR.1 ?_
    try simp only [rfM_g23, e7, su_s]
    refine jJ_aload_n (pc := 12) dX7_look_12 rfl ?_
    refine jJ_getr (pc := 13) dX7_look_13 fX7_24 rfl hR.1 hR.p7 ?_
    try simp only [rfM_g23, e7, su_s]
    refine jJ_bipush (pc := 16) dX7_look_16 (by decide) ?_
    refine jJ_iald (pc := 18) dX7_look_18 hR.a7 ⟨by omega, by omega⟩ ?_
    try simp only [rfM_g23, e7, su_s]
    refine jJ_icmp_ge (pc := 19) (tgt := 65) dX7_look_19 (by decide) (fun c19 => ?_) (fun c19 => ?_)
    · rw [← hT] at kk
      exact kk
    · exfalso
      omega
  | succ k ih =>
    intro t hk ht hT
    have go : isBlB (gB I a t) = true → jJ E yX7_look.cls cX7_look 2 none (jRm d) Z 0 0 52 [some (jp m), none] [] (rfM I m a (su s 23 (t : Int)) ts) P := by
      intro hb
      refine jJ_aload_n (pc := 52) dX7_look_52 rfl ?_
      refine jJ_dup (pc := 53) dX7_look_53 rfl ?_
      refine jJ_geti (pc := 54) dX7_look_54 fX7_91 rfl hR.1 ?_
      try simp only [rfM_g23, rfM_p23, su_s, su_su0]
      refine jJ_iconst (pc := 57) dX7_look_57 (by decide) ?_
      refine jJ_iadd (pc := 58) dX7_look_58 ⟨by omega, by omega⟩ ?_
      refine jJ_puti (pc := 59) dX7_look_59 fX7_91w rfl ⟨rfl, rfl⟩ hR.1 ?_
      try simp only [rfM_g23, rfM_p23, su_s, su_su0]
      refine jJ_goto (pc := 62) (tgt := 8) dX7_look_62 (by decide) ?_
      rw [runW, if_pos hb] at hT
      exact ih (t + 1) (by omega) (by omega) hT
    have st : isBlB (gB I a t) ≠ true → jJ E yX7_look.cls cX7_look 2 none (jRm d) Z 0 0 65 [some (jp m), none] [] (rfM I m a (su s 23 (t : Int)) ts) P := by
      intro hb
      rw [runW, if_neg hb] at hT
      rw [← hT] at kk
      exact kk
    refine jJ_aload_n (pc := 8) dX7_look_8 rfl ?_
    refine jJ_geti (pc := 9) dX7_look_9 fX7_91 rfl hR.1 ?_
    try simp only [rfM_g23, e7, su_s]
    refine jJ_aload_n (pc := 12) dX7_look_12 rfl ?_
    refine jJ_getr (pc := 13) dX7_look_13 fX7_24 rfl hR.1 hR.p7 ?_
    try simp only [rfM_g23, e7, su_s]
    refine jJ_bipush (pc := 16) dX7_look_16 (by decide) ?_
    refine jJ_iald (pc := 18) dX7_look_18 hR.a7 ⟨by omega, by omega⟩ ?_
    try simp only [rfM_g23, e7, su_s]
    refine jJ_icmp_ge (pc := 19) (tgt := 65) dX7_look_19 (by decide) (fun c19 => ?_) (fun c19 => ?_)
    · exfalso
      omega
    · refine jJ_aload_n (pc := 22) dX7_look_22 rfl ?_
      refine jJ_bipush (pc := 23) dX7_look_23 (by decide) ?_
      refine jJ_aload_n (pc := 25) dX7_look_25 rfl ?_
      refine jJ_geti (pc := 26) dX7_look_26 fX7_91 rfl hR.1 ?_
      try simp only [rfM_g23, e7, su_s]
      refine jJ_callVd (pc := 29) (as := [_, _]) dX7_look_29 mX7_94 (jRcv_of hR.1 rfl rfl) (Nat.le_of_ble_eq_true rfl) (jRm_ok (by omega) (by decide)) (r_byR (d := d - 1) hR hn hn2 (by omega)) ?_
      rw [byN_in (by omega)]
      refine jJ_bipush (pc := 32) dX7_look_32 (by decide) ?_
      refine jJ_icmp_eq (pc := 34) (tgt := 52) dX7_look_34 (by decide) (fun c34 => ?_) (fun c34 => ?_)
      · exact go (by unfold isBlB; exact decide_eq_true (Or.inl (by assumption)))
      · refine jJ_aload_n (pc := 37) dX7_look_37 rfl ?_
        refine jJ_bipush (pc := 38) dX7_look_38 (by decide) ?_
        refine jJ_aload_n (pc := 40) dX7_look_40 rfl ?_
        refine jJ_geti (pc := 41) dX7_look_41 fX7_91 rfl hR.1 ?_
        try simp only [rfM_g23, e7, su_s]
        refine jJ_callVd (pc := 44) (as := [_, _]) dX7_look_44 mX7_94 (jRcv_of hR.1 rfl rfl) (Nat.le_of_ble_eq_true rfl) (jRm_ok (by omega) (by decide)) (r_byR (d := d - 1) hR hn hn2 (by omega)) ?_
        rw [byN_in (by omega)]
        refine jJ_bipush (pc := 47) dX7_look_47 (by decide) ?_
        refine jJ_icmp_ne (pc := 49) (tgt := 65) dX7_look_49 (by decide) (fun c49 => ?_) (fun c49 => ?_)
        · exact st (by unfold isBlB; rw [Ne, decide_eq_true_iff]; omega)
        · exact go (by unfold isBlB; exact decide_eq_true (Or.inr (by omega)))
end JRP
