section JRT
variable {g : Nat → Int} {n i j k : Nat}
theorem tkG_8 : tkG g n j = 8 ↔ n ≤ tkS g n j := by
  unfold tkG
  constructor
  · intro h
    by_cases q : n ≤ tkS g n j
    · exact q
    · rw [if_neg q] at h
      split at h
      · rcases wSort_cases g 800 (tkS g n j) (tkE g n j) with e | e | e | e | e <;> rw [e] at h <;> exact absurd h (by decide)
      · split at h
        · exact absurd h (by decide)
        · split at h
          · next hs => unfold isSgB at hs; rw [decide_eq_true_iff] at hs; omega
          · exact absurd h (by decide)
  · intro h
    rw [if_pos h]
theorem tk_end (h : tkG g n j = 8) : tkE g n j = tkS g n j := by rw [tkE, if_pos (tkG_8.mp h)]
theorem tk_in (h : tkG g n j ≠ 8) : tkS g n j < n ∧ tkS g n j < tkE g n j ∧ tkE g n j ≤ n := by
  have h1 : ¬ n ≤ tkS g n j := fun z => h (tkG_8.mpr z)
  refine ⟨by omega, ?_⟩
  have e1 : n - tkS g n j = (n - tkS g n j - 1) + 1 := by omega
  unfold tkE
  rw [if_neg h1]
  by_cases q1 : isLtB (g (tkS g n j)) = true
  · rw [if_pos q1]
    have q2 : isWdB (g (tkS g n j)) = true := by unfold isLtB at q1; rw [decide_eq_true_iff] at q1; unfold isWdB; exact decide_eq_true (by omega)
    have := runW_le isWdB g (n - tkS g n j - 1) (tkS g n j + 1)
    rw [e1, runW, if_pos q2]
    omega
  · rw [if_neg q1]
    by_cases q2 : isDgB (g (tkS g n j)) = true
    · rw [if_pos q2]
      have := runW_le isDgB g (n - tkS g n j - 1) (tkS g n j + 1)
      rw [e1, runW, if_pos q2]
      omega
    · rw [if_neg q2]
      omega
theorem tk_z (n : Nat) (g : Nat → Int) (j : Nat) : (tkE g n j : Int) - (tkS g n j : Int) = ((tkE g n j - tkS g n j : Nat) : Int) ∧ (tkE g n j - tkS g n j = 0 ∨ tkS g n j + (tkE g n j - tkS g n j) ≤ n) := by
  by_cases h : tkG g n j = 8
  · have := tk_end h; omega
  · have := tk_in h; omega
/-- the number of the TOKEN that a text of the constants is -/
def sgc (i : Nat) : Int := ([3, 4, 5, 6, -5, 123, 40, 125, 41, 43, 45, 60, 44, 59, 61] : List Int).getD i 0
theorem isKw_len {f : Nat → Int} {x y : Int} (h : isKw f k i x y = true) : y - x = (sLn i : Int) := (isKw_iff.mp h).1
theorem isKw_c0 {f : Nat → Int} {x y : Int} (h : isKw f k i x y = true) (hl : sLn i ≠ 0) : f x.toNat = sCh i 0 := by
  have h2 := (isKw_iff.mp h).2.2.2
  obtain ⟨l, e⟩ := Nat.exists_eq_succ_of_ne_zero hl
  rw [e, allE] at h2
  split at h2
  · assumption
  · exact absurd h2 (by decide)
theorem wSort_kw {f : Nat → Int} {x y : Int} (hi : i < 4) : wSort f k x y = 3 + (i : Int) ↔ isKw f k i x y = true := by
  have l0 : sLn 0 = 2 := by decide
  have l1 : sLn 1 = 4 := by decide
  have l2 : sLn 2 = 5 := by decide
  have l3 : sLn 3 = 4 := by decide
  have c1 : sCh 1 0 = 101 := by decide +kernel
  have c3 : sCh 3 0 = 99 := by decide +kernel
  have f0 : isKw f k 0 x y = true → y - x = 2 := fun h => by have := isKw_len h; omega
  have f1 : isKw f k 1 x y = true → y - x = 4 ∧ f x.toNat = 101 := fun h => by have := isKw_len h; have := isKw_c0 h (by omega); omega
  have f2 : isKw f k 2 x y = true → y - x = 5 := fun h => by have := isKw_len h; omega
  have f3 : isKw f k 3 x y = true → y - x = 4 ∧ f x.toNat = 99 := fun h => by have := isKw_len h; have := isKw_c0 h (by omega); omega
  unfold wSort
  have hi4 : i = 0 ∨ i = 1 ∨ i = 2 ∨ i = 3 := by omega
  by_cases k0 : isKw f k 0 x y = true
  · have := f0 k0
    rw [if_pos k0]
    rcases hi4 with rfl | rfl | rfl | rfl
    · simp [k0]
    · exact ⟨fun z => absurd z (by decide), fun z => by have := f1 z; omega⟩
    · exact ⟨fun z => absurd z (by decide), fun z => by have := f2 z; omega⟩
    · exact ⟨fun z => absurd z (by decide), fun z => by have := f3 z; omega⟩
  · rw [if_neg k0]
    by_cases k1 : isKw f k 1 x y = true
    · have := f1 k1
      rw [if_pos k1]
      rcases hi4 with rfl | rfl | rfl | rfl
      · exact ⟨fun z => absurd z (by decide), fun z => absurd z k0⟩
      · simp [k1]
      · exact ⟨fun z => absurd z (by decide), fun z => by have := f2 z; omega⟩
      · exact ⟨fun z => absurd z (by decide), fun z => by have := f3 z; omega⟩
    · rw [if_neg k1]
      by_cases k2 : isKw f k 2 x y = true
      · have := f2 k2
        rw [if_pos k2]
        rcases hi4 with rfl | rfl | rfl | rfl
        · exact ⟨fun z => absurd z (by decide), fun z => absurd z k0⟩
        · exact ⟨fun z => absurd z (by decide), fun z => absurd z k1⟩
        · simp [k2]
        · exact ⟨fun z => absurd z (by decide), fun z => by have := f3 z; omega⟩
      · rw [if_neg k2]
        by_cases k3 : isKw f k 3 x y = true
        · rw [if_pos k3]
          rcases hi4 with rfl | rfl | rfl | rfl
          · exact ⟨fun z => absurd z (by decide), fun z => absurd z k0⟩
          · exact ⟨fun z => absurd z (by decide), fun z => absurd z k1⟩
          · exact ⟨fun z => absurd z (by decide), fun z => absurd z k2⟩
          · simp [k3]
        · rw [if_neg k3]
          rcases hi4 with rfl | rfl | rfl | rfl
          · exact ⟨fun z => absurd z (by decide), fun z => absurd z k0⟩
          · exact ⟨fun z => absurd z (by decide), fun z => absurd z k1⟩
          · exact ⟨fun z => absurd z (by decide), fun z => absurd z k2⟩
          · exact ⟨fun z => absurd z (by decide), fun z => absurd z k3⟩
theorem isB_iff {T z : Nat} : isB g i T z = true ↔ (z = sLn i ∧ allE g (sCh i) T 0 (sLn i) = true) := by
  unfold isB
  rw [decide_eq_true_iff]
  constructor
  · rintro ⟨h1, h2⟩
    exact ⟨h1, h1 ▸ h2⟩
  · rintro ⟨h1, h2⟩
    exact ⟨h1, by rw [h1]; exact h2⟩
theorem isB_sig {c : Int} (hl : sLn i = 1) (hc : sCh i 0 = c) (hs : isSgB c = true) : isB g i (tkS g n j) (tkE g n j - tkS g n j) = true ↔ tkG g n j = c := by
  have hs' := hs
  unfold isSgB at hs'
  rw [decide_eq_true_iff] at hs'
  rw [isB_iff, hl, allE, allE, hc]
  constructor
  · rintro ⟨h1, h2⟩
    have hg : g (tkS g n j) = c := by
      split at h2
      · assumption
      · exact absurd h2 (by decide)
    have hT : ¬ n ≤ tkS g n j := fun z => by have := tk_end (tkG_8.mpr z); omega
    have nl : ¬ isLtB (g (tkS g n j)) = true := by unfold isLtB; rw [decide_eq_true_iff, hg]; omega
    have nd : ¬ isDgB (g (tkS g n j)) = true := by unfold isDgB; rw [decide_eq_true_iff, hg]; omega
    rw [tkG, if_neg hT, if_neg nl, if_neg nd, if_pos (by rw [hg]; exact hs)]
    exact hg
  · intro h
    have h8 : tkG g n j ≠ 8 := by omega
    have hT : ¬ n ≤ tkS g n j := fun z => h8 (tkG_8.mpr z)
    have h' := h
    rw [tkG, if_neg hT] at h'
    by_cases nl : isLtB (g (tkS g n j)) = true
    · rw [if_pos nl] at h'
      have := wSort_cases g 800 (tkS g n j) (tkE g n j)
      omega
    · rw [if_neg nl] at h'
      by_cases nd : isDgB (g (tkS g n j)) = true
      · rw [if_pos nd] at h'
        omega
      · rw [if_neg nd] at h'
        by_cases ns : isSgB (g (tkS g n j)) = true
        · rw [if_pos ns] at h'
          have e : tkE g n j = tkS g n j + 1 := by rw [tkE, if_neg hT, if_neg nl, if_neg nd]
          exact ⟨by omega, by rw [if_pos h']⟩
        · rw [if_neg ns] at h'
          omega
theorem sCh_lt : ∀ i, i < 4 → isLtB (sCh i 0) = true := by decide +kernel
theorem isB_kw (hi : i < 4) (hn : n ≤ 800) : isB g i (tkS g n j) (tkE g n j - tkS g n j) = true ↔ tkG g n j = 3 + (i : Int) := by
  have hl : ∀ i, i < 4 → sLn i ≠ 0 := by decide
  have key : isLtB (g (tkS g n j)) = true → ¬ n ≤ tkS g n j → (isKw g 800 i (tkS g n j) (tkE g n j) = true ↔ isB g i (tkS g n j) (tkE g n j - tkS g n j) = true) := by
    intro _ hT
    have h1 := tk_in (g := g) (n := n) (j := j) (fun z => hT (tkG_8.mp z))
    rw [isKw_iff, isB_iff, Int.toNat_natCast]
    constructor
    · rintro ⟨p1, p2, p3, p4⟩
      exact ⟨by omega, p4⟩
    · rintro ⟨p1, p2⟩
      exact ⟨by omega, by omega, by omega, p2⟩
  constructor
  · intro h
    have h' := isB_iff.mp h
    have hT : ¬ n ≤ tkS g n j := fun z => by have := tk_end (tkG_8.mpr z); have := hl i hi; omega
    have hg : g (tkS g n j) = sCh i 0 := by
      have h2 := h'.2
      obtain ⟨l, e⟩ := Nat.exists_eq_succ_of_ne_zero (hl i hi)
      rw [e, allE] at h2
      split at h2
      · assumption
      · exact absurd h2 (by decide)
    have nl : isLtB (g (tkS g n j)) = true := by rw [hg]; exact sCh_lt i hi
    rw [tkG, if_neg hT, if_pos nl]
    exact (wSort_kw hi).mpr ((key nl hT).mpr h)
  · intro h
    have h8 : tkG g n j ≠ 8 := by omega
    have hT : ¬ n ≤ tkS g n j := fun z => h8 (tkG_8.mpr z)
    have h' := h
    rw [tkG, if_neg hT] at h'
    by_cases nl : isLtB (g (tkS g n j)) = true
    · rw [if_pos nl] at h'
      exact (key nl hT).mp ((wSort_kw hi).mp h')
    · rw [if_neg nl] at h'
      by_cases nd : isDgB (g (tkS g n j)) = true
      · rw [if_pos nd] at h'
        omega
      · rw [if_neg nd] at h'
        by_cases ns : isSgB (g (tkS g n j)) = true
        · rw [if_pos ns] at h'
          unfold isSgB at ns
          rw [decide_eq_true_iff] at ns
          omega
        · rw [if_neg ns] at h'
          omega
theorem isB_tkG (hi : i < 15) (h4 : i ≠ 4) (hn : n ≤ 800) : isB g i (tkS g n j) (tkE g n j - tkS g n j) = true ↔ tkG g n j = sgc i := by
  have q : i = 0 ∨ i = 1 ∨ i = 2 ∨ i = 3 ∨ i = 5 ∨ i = 6 ∨ i = 7 ∨ i = 8 ∨ i = 9 ∨ i = 10 ∨ i = 11 ∨ i = 12 ∨ i = 13 ∨ i = 14 := by omega
  rcases q with rfl | rfl | rfl | rfl | rfl | rfl | rfl | rfl | rfl | rfl | rfl | rfl | rfl | rfl
  · exact isB_kw (by decide) hn
  · exact isB_kw (by decide) hn
  · exact isB_kw (by decide) hn
  · exact isB_kw (by decide) hn
  · exact isB_sig (by decide) (by decide +kernel) (by decide)
  · exact isB_sig (by decide) (by decide +kernel) (by decide)
  · exact isB_sig (by decide) (by decide +kernel) (by decide)
  · exact isB_sig (by decide) (by decide +kernel) (by decide)
  · exact isB_sig (by decide) (by decide +kernel) (by decide)
  · exact isB_sig (by decide) (by decide +kernel) (by decide)
  · exact isB_sig (by decide) (by decide +kernel) (by decide)
  · exact isB_sig (by decide) (by decide +kernel) (by decide)
  · exact isB_sig (by decide) (by decide +kernel) (by decide)
  · exact isB_sig (by decide) (by decide +kernel) (by decide)
/-- a KEYWORD is short -/
theorem kw_len (hn : n ≤ 800) (h : 3 ≤ tkG g n j ∧ tkG g n j ≤ 6) : tkE g n j - tkS g n j ≤ 5 := by
  have l0 : sLn 0 = 2 := by decide
  have l1 : sLn 1 = 4 := by decide
  have l2 : sLn 2 = 5 := by decide
  have l3 : sLn 3 = 4 := by decide
  have q : tkG g n j = 3 ∨ tkG g n j = 4 ∨ tkG g n j = 5 ∨ tkG g n j = 6 := by omega
  rcases q with e | e | e | e
  · have := (isB_iff.mp ((isB_tkG (i := 0) (by decide) (by decide) hn).mpr e)).1; omega
  · have := (isB_iff.mp ((isB_tkG (i := 1) (by decide) (by decide) hn).mpr e)).1; omega
  · have := (isB_iff.mp ((isB_tkG (i := 2) (by decide) (by decide) hn).mpr e)).1; omega
  · have := (isB_iff.mp ((isB_tkG (i := 3) (by decide) (by decide) hn).mpr e)).1; omega
theorem srt_0 {x : Int} : srt x = 0 ↔ x = 1 ∨ (3 ≤ x ∧ x ≤ 6) := by unfold srt; (repeat' split) <;> omega
theorem srt_1 {x : Int} : srt x = 1 ↔ x = 2 := by unfold srt; (repeat' split) <;> omega
end JRT
section JRT2
variable {E : jE} {I : jI} {P : jP} {d m n i j : Nat} {a : Nat → Nat} {s : Nat → Int} {ts : List T5}
theorem r_isT {c : Int} (hR : RfL E P m a) (hn : I (a 7) 12 = (n : Int)) (hn2 : n ≤ 800) (hi : i < 15) (h4 : i ≠ 4) (hc : sgc i = c) (h23 : s 23 = (tkS (gB I a) n j : Int)) (h24 : s 24 = (tkE (gB I a) n j : Int) - (tkS (gB I a) n j : Int)) (hd : 4 ≤ d) :
    jC E yX7_is cX7_is 4 (some .boolean) d [jp m, jp (eSk E i)] (rfM I m a s ts) P (jD (some (ji (jb (tkG (gB I a) n j = c)))) (rfM I m a s ts) P) := by
  have hz := tk_z n (gB I a) j
  rw [hz.1] at h24
  refine jC_post (r_is hR hi hn hn2 h23 h24 hz.2 hd) ?_ rfl
  subst hc
  exact congrArg (fun v => some (ji v)) (jb_cg (isB_tkG (g := gB I a) (n := n) (j := j) hi h4 hn2))
theorem r_isKeyword (hR : RfL E P m a) (hn : I (a 7) 12 = (n : Int)) (hn2 : n ≤ 800) (h23 : s 23 = (tkS (gB I a) n j : Int)) (h24 : s 24 = (tkE (gB I a) n j : Int) - (tkS (gB I a) n j : Int)) (hd : 5 ≤ d) :
    jC E yX7_isKeyword cX7_isKeyword 1 (some .boolean) d [jp m] (rfM I m a s ts) P (jD (some (ji (jb (3 ≤ tkG (gB I a) n j ∧ tkG (gB I a) n j ≤ 6)))) (rfM I m a s ts) P) := by
  refine jC_intro (by decide +kernel) (by simp [jc, va_rf, Value.category]) (Nat.le_of_ble_eq_true rfl) ?_
  refine jJ_aload_n (pc := 0) dX7_isKeyword_0 rfl ?_
  refine jJ_ldcS (pc := 1) (i := 0) dX7_isKeyword_1 (by decide +kernel) ?_
  refine jJ_callVd (pc := 3) (as := [_]) dX7_isKeyword_3 mX7_132 (jRcv_of hR.1 rfl rfl) (Nat.le_of_ble_eq_true rfl) (jRm_ok (by omega) (by decide)) (r_isT (d := d - 1) (c := 3) hR hn hn2 (by decide) (by decide) rfl h23 h24 (by omega)) ?_
  refine jJ_if_ne (pc := 6) (tgt := 36) dX7_isKeyword_6 (by decide) (fun c6 => ?_) (fun c6 => ?_)
  · try simp only [jb_z, jb_nz] at c6
    refine jJ_iconst (pc := 36) dX7_isKeyword_36 (by decide) ?_
    refine jJ_goto (pc := 37) (tgt := 41) dX7_isKeyword_37 (by decide) ?_
    refine jJ_zret (pc := 41) dX7_isKeyword_41 rfl (by decide) ?_
    exact ⟨by first | (exfalso; omega) | rw [← jb_t (by omega)] | rw [← jb_f (by omega)], rfl, rfl⟩
  · try simp only [jb_z, jb_nz] at c6
    refine jJ_aload_n (pc := 9) dX7_isKeyword_9 rfl ?_
    refine jJ_ldcS (pc := 10) (i := 1) dX7_isKeyword_10 (by decide +kernel) ?_
    refine jJ_callVd (pc := 12) (as := [_]) dX7_isKeyword_12 mX7_132 (jRcv_of hR.1 rfl rfl) (Nat.le_of_ble_eq_true rfl) (jRm_ok (by omega) (by decide)) (r_isT (d := d - 1) (c := 4) hR hn hn2 (by decide) (by decide) rfl h23 h24 (by omega)) ?_
    refine jJ_if_ne (pc := 15) (tgt := 36) dX7_isKeyword_15 (by decide) (fun c15 => ?_) (fun c15 => ?_)
    · try simp only [jb_z, jb_nz] at c15
      refine jJ_iconst (pc := 36) dX7_isKeyword_36 (by decide) ?_
      refine jJ_goto (pc := 37) (tgt := 41) dX7_isKeyword_37 (by decide) ?_
      refine jJ_zret (pc := 41) dX7_isKeyword_41 rfl (by decide) ?_
      exact ⟨by first | (exfalso; omega) | rw [← jb_t (by omega)] | rw [← jb_f (by omega)], rfl, rfl⟩
    · try simp only [jb_z, jb_nz] at c15
      refine jJ_aload_n (pc := 18) dX7_isKeyword_18 rfl ?_
      refine jJ_ldcS (pc := 19) (i := 2) dX7_isKeyword_19 (by decide +kernel) ?_
      refine jJ_callVd (pc := 21) (as := [_]) dX7_isKeyword_21 mX7_132 (jRcv_of hR.1 rfl rfl) (Nat.le_of_ble_eq_true rfl) (jRm_ok (by omega) (by decide)) (r_isT (d := d - 1) (c := 5) hR hn hn2 (by decide) (by decide) rfl h23 h24 (by omega)) ?_
      refine jJ_if_ne (pc := 24) (tgt := 36) dX7_isKeyword_24 (by decide) (fun c24 => ?_) (fun c24 => ?_)
      · try simp only [jb_z, jb_nz] at c24
        refine jJ_iconst (pc := 36) dX7_isKeyword_36 (by decide) ?_
        refine jJ_goto (pc := 37) (tgt := 41) dX7_isKeyword_37 (by decide) ?_
        refine jJ_zret (pc := 41) dX7_isKeyword_41 rfl (by decide) ?_
        exact ⟨by first | (exfalso; omega) | rw [← jb_t (by omega)] | rw [← jb_f (by omega)], rfl, rfl⟩
      · try simp only [jb_z, jb_nz] at c24
        refine jJ_aload_n (pc := 27) dX7_isKeyword_27 rfl ?_
        refine jJ_ldcS (pc := 28) (i := 3) dX7_isKeyword_28 (by decide +kernel) ?_
        refine jJ_callVd (pc := 30) (as := [_]) dX7_isKeyword_30 mX7_132 (jRcv_of hR.1 rfl rfl) (Nat.le_of_ble_eq_true rfl) (jRm_ok (by omega) (by decide)) (r_isT (d := d - 1) (c := 6) hR hn hn2 (by decide) (by decide) rfl h23 h24 (by omega)) ?_
        refine jJ_if_eq (pc := 33) (tgt := 40) dX7_isKeyword_33 (by decide) (fun c33 => ?_) (fun c33 => ?_)
        · try simp only [jb_z, jb_nz] at c33
          refine jJ_iconst (pc := 40) dX7_isKeyword_40 (by decide) ?_
          refine jJ_zret (pc := 41) dX7_isKeyword_41 rfl (by decide) ?_
          exact ⟨by first | (exfalso; omega) | rw [← jb_t (by omega)] | rw [← jb_f (by omega)], rfl, rfl⟩
        · try simp only [jb_z, jb_nz] at c33
          refine jJ_iconst (pc := 36) dX7_isKeyword_36 (by decide) ?_
          refine jJ_goto (pc := 37) (tgt := 41) dX7_isKeyword_37 (by decide) ?_
          refine jJ_zret (pc := 41) dX7_isKeyword_41 rfl (by decide) ?_
          exact ⟨by first | (exfalso; omega) | rw [← jb_t (by omega)] | rw [← jb_f (by omega)], rfl, rfl⟩
theorem r_isName (hR : RfL E P m a) (hn : I (a 7) 12 = (n : Int)) (hn2 : n ≤ 800) (h23 : s 23 = (tkS (gB I a) n j : Int)) (h24 : s 24 = (tkE (gB I a) n j : Int) - (tkS (gB I a) n j : Int)) (h25 : s 25 = srt (tkG (gB I a) n j)) (hd : 6 ≤ d) :
    jC E yX7_isName cX7_isName 1 (some .boolean) d [jp m] (rfM I m a s ts) P (jD (some (ji (jb (tkG (gB I a) n j = 1)))) (rfM I m a s ts) P) := by
  have q0 := srt_0 (x := tkG (gB I a) n j)
  have q1 : tkG (gB I a) n j = 8 → tkE (gB I a) n j = tkS (gB I a) n j := tk_end
  have q2 : tkG (gB I a) n j ≠ 8 → tkS (gB I a) n j < tkE (gB I a) n j := fun z => (tk_in z).2.1
  refine jC_intro (by decide +kernel) (by simp [jc, va_rf, Value.category]) (Nat.le_of_ble_eq_true rfl) ?_
  refine jJ_aload_n (pc := 0) dX7_isName_0 rfl ?_
  refine jJ_geti (pc := 1) dX7_isName_1 fX7_98 rfl hR.1 ?_
  try simp only [rfM_g24, rfM_g25, h24, h25]
  refine jJ_if_le (pc := 4) (tgt := 25) dX7_isName_4 (by decide) (fun c4 => ?_) (fun c4 => ?_)
  · try simp only [jb_z, jb_nz] at c4
    refine jJ_iconst (pc := 25) dX7_isName_25 (by decide) ?_
    refine jJ_zret (pc := 26) dX7_isName_26 rfl (by decide) ?_
    exact ⟨by first | (exfalso; omega) | rw [← jb_t (by omega)] | rw [← jb_f (by omega)], rfl, rfl⟩
  · try simp only [jb_z, jb_nz] at c4
    refine jJ_aload_n (pc := 7) dX7_isName_7 rfl ?_
    refine jJ_geti (pc := 8) dX7_isName_8 fX7_101 rfl hR.1 ?_
    try simp only [rfM_g24, rfM_g25, h24, h25]
    refine jJ_if_ne (pc := 11) (tgt := 25) dX7_isName_11 (by decide) (fun c11 => ?_) (fun c11 => ?_)
    · try simp only [jb_z, jb_nz] at c11
      refine jJ_iconst (pc := 25) dX7_isName_25 (by decide) ?_
      refine jJ_zret (pc := 26) dX7_isName_26 rfl (by decide) ?_
      exact ⟨by first | (exfalso; omega) | rw [← jb_t (by omega)] | rw [← jb_f (by omega)], rfl, rfl⟩
    · try simp only [jb_z, jb_nz] at c11
      refine jJ_aload_n (pc := 14) dX7_isName_14 rfl ?_
      refine jJ_callVd (pc := 15) (as := []) dX7_isName_15 mX7_142 (jRcv_of hR.1 rfl rfl) (Nat.le_of_ble_eq_true rfl) (jRm_ok (by omega) (by decide)) (r_isKeyword (d := d - 1) hR hn hn2 h23 h24 (by omega)) ?_
      try simp only [rfM_g24, rfM_g25, h24, h25]
      refine jJ_if_ne (pc := 18) (tgt := 25) dX7_isName_18 (by decide) (fun c18 => ?_) (fun c18 => ?_)
      · try simp only [jb_z, jb_nz] at c18
        refine jJ_iconst (pc := 25) dX7_isName_25 (by decide) ?_
        refine jJ_zret (pc := 26) dX7_isName_26 rfl (by decide) ?_
        exact ⟨by first | (exfalso; omega) | rw [← jb_t (by omega)] | rw [← jb_f (by omega)], rfl, rfl⟩
      · try simp only [jb_z, jb_nz] at c18
        refine jJ_iconst (pc := 21) dX7_isName_21 (by decide) ?_
        refine jJ_goto (pc := 22) (tgt := 26) dX7_isName_22 (by decide) ?_
        refine jJ_zret (pc := 26) dX7_isName_26 rfl (by decide) ?_
        exact ⟨by first | (exfalso; omega) | rw [← jb_t (by omega)] | rw [← jb_f (by omega)], rfl, rfl⟩
end JRT2
