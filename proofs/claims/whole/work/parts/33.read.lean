section JRead
variable {E : jE} {I : jI} {P : jP} {d : Nat} {rd op : Nat} {s r : Nat → Int}
abbrev T5 : Type := Int × Int × Int × Int × Int
/-- the TOKENS of a text, over a memory -/
def tkM (I : jI) (x : Nat) (q : Nat → Nat) (ts : List T5) : jI := fun a k =>
  if a = x ∧ k = 11 then (ts.length : Int)
  else if a = q 1 ∧ k < ts.length then (ts.getD k (0, 0, 0, 0, 0)).1
  else if a = q 2 ∧ k < ts.length then (ts.getD k (0, 0, 0, 0, 0)).2.1
  else if a = q 3 ∧ k < ts.length then (ts.getD k (0, 0, 0, 0, 0)).2.2.1
  else if a = q 4 ∧ k < ts.length then (ts.getD k (0, 0, 0, 0, 0)).2.2.2.1
  else if a = q 5 ∧ k < ts.length then (ts.getD k (0, 0, 0, 0, 0)).2.2.2.2
  else I a k
theorem tkM_x {I : jI} {x a : Nat} {q : Nat → Nat} {ts : List T5} (h0 : a ≠ x) (h1 : a ≠ q 1) (h2 : a ≠ q 2) (h3 : a ≠ q 3) (h4 : a ≠ q 4) (h5 : a ≠ q 5) (k : Nat) : tkM I x q ts a k = I a k := by simp [tkM, h0, h1, h2, h3, h4, h5]
theorem tkM_f {I : jI} {x k : Nat} {q : Nat → Nat} {ts : List T5} (hq : ∀ j, j ≤ 7 → x ≠ q j) (hk : k ≠ 11) : tkM I x q ts x k = I x k := by
  simp [tkM, hk, hq 1 (by decide), hq 2 (by decide), hq 3 (by decide), hq 4 (by decide), hq 5 (by decide)]
theorem tkM_n {I : jI} {x : Nat} {q : Nat → Nat} {ts : List T5} : tkM I x q ts x 11 = (ts.length : Int) := by simp [tkM]
theorem getD_app {ts : List T5} {t : T5} {k : Nat} {z : T5} : (ts ++ [t]).getD k z = if k < ts.length then ts.getD k z else if k = ts.length then t else z := by
  simp only [List.getD_eq_getElem?_getD]
  by_cases h : k < ts.length
  · rw [if_pos h, List.getElem?_append_left h]
  · rw [if_neg h, List.getElem?_append_right (by omega)]
    by_cases h2 : k = ts.length
    · subst h2; simp
    · rw [if_neg h2, List.getElem?_eq_none (by simp; omega)]
      rfl
theorem tkM_add {I : jI} {x : Nat} {q : Nat → Nat} {ts : List T5} {s e g dp ow : Int} (hx : ∀ j, j ≤ 7 → x ≠ q j) (hq : TxD q) : tokM (tkM I x q ts) x q s e g dp ow = tkM I x q (ts ++ [(s, e, g, dp, ow)]) := by
  have n12 : q 2 ≠ q 1 := fun z => by have := hq 2 1 (by decide) (by decide) z; omega
  have n13 : q 3 ≠ q 1 := fun z => by have := hq 3 1 (by decide) (by decide) z; omega
  have n14 : q 4 ≠ q 1 := fun z => by have := hq 4 1 (by decide) (by decide) z; omega
  have n15 : q 5 ≠ q 1 := fun z => by have := hq 5 1 (by decide) (by decide) z; omega
  have n23 : q 3 ≠ q 2 := fun z => by have := hq 3 2 (by decide) (by decide) z; omega
  have n24 : q 4 ≠ q 2 := fun z => by have := hq 4 2 (by decide) (by decide) z; omega
  have n25 : q 5 ≠ q 2 := fun z => by have := hq 5 2 (by decide) (by decide) z; omega
  have n34 : q 4 ≠ q 3 := fun z => by have := hq 4 3 (by decide) (by decide) z; omega
  have n35 : q 5 ≠ q 3 := fun z => by have := hq 5 3 (by decide) (by decide) z; omega
  have n45 : q 5 ≠ q 4 := fun z => by have := hq 5 4 (by decide) (by decide) z; omega
  have x1 := hx 1 (by decide)
  have x2 := hx 2 (by decide)
  have x3 := hx 3 (by decide)
  have x4 := hx 4 (by decide)
  have x5 := hx 5 (by decide)
  have h11 : tkM I x q ts x 11 = (ts.length : Int) := tkM_n
  unfold tokM
  rw [h11, Int.toNat_natCast]
  funext a k
  simp only [jput, tkM, getD_app, List.length_append, List.length_cons, List.length_nil]
  by_cases ha : a = x
  · subst ha
    simp only [x1, x2, x3, x4, x5, false_and, if_false, true_and]
    by_cases hk : k = 11
    · subst hk; simp
    · simp [hk]
  · simp only [ha, false_and, if_false]
    by_cases hk : k = ts.length
    · subst hk
      simp only [Nat.lt_irrefl, and_false, if_false, and_true, Nat.lt_succ_self, if_true]
      by_cases a5 : a = q 5
      · subst a5; simp [n15, n25, n35, n45]
      · by_cases a4 : a = q 4
        · subst a4; simp [n14, n24, n34, a5]
        · by_cases a3 : a = q 3
          · subst a3; simp [n13, n23, a5, a4]
          · by_cases a2 : a = q 2
            · subst a2; simp [n12, a5, a4, a3]
            · by_cases a1 : a = q 1
              · subst a1; simp [a5, a4, a3, a2]
              · simp [a1, a2, a3, a4, a5]
    · simp only [hk, and_false, if_false]
      by_cases hk2 : k < ts.length
      · have hk3 : k < ts.length + (0 + 1) := by omega
        simp only [hk2, hk3, and_true, if_true]
      · have hk3 : ¬ k < ts.length + (0 + 1) := by omega
        simp only [hk2, hk3, and_false, if_false]
theorem rdM_put {I : jI} {rd op a k : Nat} {s r : Nat → Int} {v : Int} (h1 : a ≠ rd) (h2 : a ≠ op) : jput (rdM I rd op s r) a k v = rdM (jput I a k v) rd op s r := by
  funext b j
  simp only [jput, rdM]
  by_cases hb : b = a
  · subst hb; simp [h1, h2]
  · simp [hb]
theorem tokM_rd {I : jI} {x : Nat} {q : Nat → Nat} {s' e g dp ow : Int} (h1 : x ≠ rd) (h2 : x ≠ op) (h3 : ∀ j, j ≤ 7 → q j ≠ rd) (h4 : ∀ j, j ≤ 7 → q j ≠ op) : tokM (rdM I rd op s r) x q s' e g dp ow = rdM (tokM I x q s' e g dp ow) rd op s r := by
  unfold tokM
  rw [rdM_x h1 h2]
  simp only [rdM_put (h3 1 (by decide)) (h4 1 (by decide)), rdM_put (h3 2 (by decide)) (h4 2 (by decide)), rdM_put (h3 3 (by decide)) (h4 3 (by decide)), rdM_put (h3 4 (by decide)) (h4 4 (by decide)), rdM_put (h3 5 (by decide)) (h4 5 (by decide)), rdM_put h1 h2]
theorem rdM_self : rdM I rd op (I rd) (I op) = I := by
  funext a k
  simp only [rdM]
  split
  · next h => rw [h.1]
  · split
    · next h => rw [h.1]
    · rfl
def tooM (n : Nat) (s : Nat → Int) : Prop := 200 ≤ (n : Int) ∨ s 3 ≠ 0 ∨ (s 10 = 1 ∧ 16 < s 9 - s 8) ∨ (s 10 = 2 ∧ 6 < s 9 - s 8)
def tooB (n : Nat) (s : Nat → Int) : Bool := decide (200 ≤ (n : Int) ∨ s 3 ≠ 0 ∨ (s 10 = 1 ∧ 16 < s 9 - s 8) ∨ (s 10 = 2 ∧ 6 < s 9 - s 8))
def tokOf (s : Nat → Int) : T5 := (s 8, s 9, s 10, if s 10 = 123 then s 2 - 1 else s 2, s 5)
abbrev RdRes : Type := Int × (Nat → Int) × (Nat → Int) × List T5 × Bool
/-- the reading of n bytes, k TOKENS at most: the fault, the reader's numbers, what stands open, the TOKENS, whether the text's end was met -/
def rdGo (f : Nat → Int) (n : Nat) : Nat → (Nat → Int) → (Nat → Int) → List T5 → RdRes
  | 0, s, r, ts => (2, su s 7 (s 8), r, ts, false)
  | k + 1, s, r, ts =>
    if (scS f n s) 10 = 8 then
      (if (scS f n s) 1 = 0 ∧ ((scS f n s) 4 = 0 ∨ (scS f n s) 4 = 1) then (0, scS f n s, r, ts, true) else (1, su (scS f n s) 7 ((scS f n s) 8), r, ts, true))
    else if stdV (scS f n s) r = 0 then (1, su (stdS (scS f n s) r) 7 ((stdS (scS f n s) r) 8), stdR (scS f n s) r, ts, false)
    else if tooB ts.length (stdS (scS f n s) r) = true then (2, su (stdS (scS f n s) r) 7 ((stdS (scS f n s) r) 8), stdR (scS f n s) r, ts, false)
    else rdGo f n k (stdS (scS f n s) r) (stdR (scS f n s) r) (ts ++ [tokOf (stdS (scS f n s) r)])
def rdRM (I : jI) (x : Nat) (q : Nat → Nat) (rd op : Nat) (w : RdRes) : jI := rdM (if w.2.2.2.2 = true then jput (tkM I x q w.2.2.2.1) x 12 (w.2.1 6) else tkM I x q w.2.2.2.1) rd op w.2.1 w.2.2.1
/-- between two TOKENS: the reader's numbers -/
def RdI (k : Nat) (s : Nat → Int) : Prop := (0 ≤ s 1 ∧ s 1 ≤ 6) ∧ (-(k : Int) ≤ s 2 ∧ s 2 ≤ k) ∧ (0 ≤ s 6 ∧ s 6 ≤ k) ∧ s 3 = 0 ∧ (s 4 = 5 → 0 < s 1) ∧ (0 ≤ s 9 ∧ s 9 ≤ 800)
theorem rInner_pos {s r : Nat → Int} (h : rInner s r ≠ -1) : 0 < s 1 ∧ s 1 ≤ 6 := by
  unfold rInner at h
  split at h
  · assumption
  · exact absurd rfl h
theorem tk_le {f : Nat → Int} {n i : Nat} (hi : i ≤ 800) (hn : n ≤ 800) : tkS f n i ≤ 800 ∧ tkE f n i ≤ 800 ∧ tkS f n i ≤ tkE f n i := by
  have h1 := runW_le isBlB f (n - i) i
  have h2 := runW_le isWdB f (n - tkS f n i) (tkS f n i)
  have h3 := runW_le isDgB f (n - tkS f n i) (tkS f n i)
  have e : tkS f n i = runW isBlB f (n - i) i := rfl
  unfold tkE
  (repeat' split) <;> omega
theorem scS_v (f : Nat → Int) (n : Nat) (s : Nat → Int) {j : Nat} (h8 : j ≠ 8) (h9 : j ≠ 9) (h10 : j ≠ 10) : scS f n s j = s j := by simp [scS, su, h8, h9, h10]
theorem scS_8 (f : Nat → Int) (n : Nat) (s : Nat → Int) : scS f n s 8 = (tkS f n (s 9).toNat : Int) := rfl
theorem scS_9 (f : Nat → Int) (n : Nat) (s : Nat → Int) : scS f n s 9 = (tkE f n (s 9).toNat : Int) := rfl
theorem scS_10 (f : Nat → Int) (n : Nat) (s : Nat → Int) : scS f n s 10 = tkG f n (s 9).toNat := rfl
theorem pushS_v {s : Nat → Int} (h : 0 ≤ s 1 ∧ s 1 ≤ 6) : (pushS s 1 = s 1 + 1 ∧ s 1 < 6 ∧ pushS s 3 = s 3) ∧ (∀ j, j ≠ 1 → j ≠ 3 → pushS s j = s j) ∨ pushS s 3 = 1 ∧ pushS s 1 = s 1 ∧ (∀ j, j ≠ 1 → j ≠ 3 → pushS s j = s j) := by
  unfold pushS
  split
  · left
    exact ⟨⟨rfl, by assumption, rfl⟩, fun j h1 h3 => by simp [su, h1]⟩
  · right
    exact ⟨rfl, rfl, fun j h1 h3 => by simp [su, h3]⟩
/-- a step of the reader that may be: how far its numbers go -/
def Nx (s s' : Nat → Int) : Prop := (s' 3 = 0 → (0 ≤ s' 1 ∧ s' 1 ≤ 6) ∧ (s 2 - 1 ≤ s' 2 ∧ s' 2 ≤ s 2 + 1) ∧ (s 6 ≤ s' 6 ∧ s' 6 ≤ s 6 + 1) ∧ (s' 4 = 5 → 0 < s' 1)) ∧ s' 8 = s 8 ∧ s' 9 = s 9 ∧ s' 10 = s 10
theorem Nx_su {s : Nat → Int} {v : Int} (h1 : 0 ≤ s 1 ∧ s 1 ≤ 6) (hv : v ≠ 5) : Nx s (su s 4 v) := by
  refine ⟨fun _ => ?_, rfl, rfl, rfl⟩
  simp only [su_1_4, su_2_4, su_6_4, su_s]
  omega
theorem Nx_push {s : Nat → Int} {v : Int} (h1 : 0 ≤ s 1 ∧ s 1 ≤ 6) : Nx s (pushS (su s 4 v)) := by
  unfold pushS
  split
  · next h =>
    refine ⟨fun _ => ?_, rfl, rfl, rfl⟩
    simp only [su_1_4, su_2_1, su_4_1, su_2_4, su_6_1, su_6_4, su_s] at h ⊢
    omega
  · exact ⟨fun z => absurd z (by simp [su]), rfl, rfl, rfl⟩
theorem Nx_endBr {s r : Nat → Int} (h1 : 0 < s 1 ∧ s 1 ≤ 6) : Nx s (endBrS s r) := by
  unfold endBrS
  refine ⟨fun _ => ?_, rfl, rfl, rfl⟩
  simp only [su_4_1, su_2_1, su_2_4, su_6_1, su_6_4, su_s]
  split <;> omega
theorem Nx_endBl {s r : Nat → Int} (h : rInner s r ≠ -1) : Nx s (endBlS s r) := by
  have hp := rInner_pos h
  unfold endBlS
  rw [if_neg h]
  refine ⟨fun _ => ?_, rfl, rfl, rfl⟩
  simp only [su_1_4, su_1_5, su_1_2, su_2_4, su_2_5, su_6_4, su_6_5, su_6_2, su_6_1, su_s]
  split <;> omega
theorem Nx_stBl {s : Nat → Int} (h1 : 0 ≤ s 1 ∧ s 1 ≤ 6) : Nx s (stBlS s) := by
  unfold stBlS pushS
  split
  · next h =>
    refine ⟨fun _ => ?_, rfl, rfl, rfl⟩
    simp only [su_1_2, su_1_4, su_2_1, su_2_4, su_4_1, su_4_2, su_6_1, su_6_2, su_6_4, su_s] at h ⊢
    omega
  · exact ⟨fun z => absurd z (by simp [su]), rfl, rfl, rfl⟩
theorem Nx_own {s : Nat → Int} {a v : Int} (h1 : 0 ≤ s 1 ∧ s 1 ≤ 6) (hv : v ≠ 5) : Nx s (ownS s a v) := by
  unfold ownS
  refine ⟨fun _ => ?_, rfl, rfl, rfl⟩
  simp only [su_1_4, su_1_6, su_1_5, su_2_4, su_2_6, su_2_5, su_6_4, su_6_5, su_s]
  omega
theorem Nx_spt {s : Nat → Int} (h1 : 0 ≤ s 1 ∧ s 1 ≤ 6) (hv : sptV s ≠ 0) : Nx s (sptS s) := by
  unfold sptV at hv
  unfold sptS
  split
  · exact Nx_push h1
  · next h => rw [if_neg h] at hv; rw [if_pos (jb_nz.mp hv)]; exact Nx_su h1 (by decide)
theorem Nx_go {s r : Nat → Int} (h1 : 0 ≤ s 1 ∧ s 1 ≤ 6) (hv : goV s r ≠ 0) : Nx s (goS s r) := by
  unfold goV at hv
  unfold goS
  by_cases q1 : s 10 = 43 ∨ s 10 = 45 ∨ s 10 = 60
  · rw [if_pos q1]; exact Nx_su h1 (by decide)
  rw [if_neg q1] at hv ⊢
  by_cases q2 : rInner s r = 0
  · rw [if_pos q2] at hv ⊢
    rw [if_pos (jb_nz.mp hv)]
    exact Nx_endBr (rInner_pos (r := r) (by rw [q2]; decide))
  rw [if_neg q2] at hv ⊢
  by_cases q3 : rInner s r = 1
  · rw [if_pos q3] at hv ⊢
    by_cases q4 : s 10 = 41
    · rw [if_pos q4]; exact Nx_endBr (rInner_pos (r := r) (by rw [q3]; decide))
    · rw [if_neg q4] at hv ⊢
      rw [if_pos (jb_nz.mp hv)]
      exact Nx_su h1 (by decide)
  rw [if_neg q3] at hv ⊢
  by_cases q5 : s 5 = 0
  · rw [if_pos q5] at hv ⊢
    rw [if_pos (jb_nz.mp hv)]
    exact Nx_su h1 (by decide)
  · rw [if_neg q5] at hv ⊢
    rw [if_pos (jb_nz.mp hv)]
    exact Nx_stBl h1
theorem Nx_stm {s r : Nat → Int} (h1 : 0 ≤ s 1 ∧ s 1 ≤ 6) (hv : stmV s r ≠ 0) : Nx s (stmS s r) := by
  unfold stmV at hv
  unfold stmS
  by_cases q1 : s 10 = 1
  · rw [if_pos q1]; exact Nx_own h1 (by decide)
  rw [if_neg q1] at hv ⊢
  by_cases q2 : s 10 = 6
  · rw [if_pos q2]; exact Nx_own h1 (by decide)
  rw [if_neg q2] at hv ⊢
  by_cases q3 : s 10 = 3
  · rw [if_pos q3]; exact Nx_own h1 (by decide)
  rw [if_neg q3] at hv ⊢
  by_cases q4 : s 10 = 5
  · rw [if_pos q4]; exact Nx_own h1 (by decide)
  rw [if_neg q4] at hv ⊢
  by_cases q5 : s 10 = 4
  · rw [if_pos q5] at hv ⊢
    rw [if_pos (jb_nz.mp hv)]
    exact Nx_su h1 (by decide)
  rw [if_neg q5] at hv ⊢
  by_cases q6 : s 10 = 125
  · rw [if_pos q6] at hv ⊢
    exact Nx_endBl (jb_nz.mp hv)
  · rw [if_neg q6] at hv
    exact absurd rfl hv
theorem Nx_std {s r : Nat → Int} (h1 : 0 ≤ s 1 ∧ s 1 ≤ 6) (h5 : s 4 = 5 → 0 < s 1) (hv : stdV s r ≠ 0) : Nx s (stdS s r) := by
  unfold stdV at hv
  unfold stdS
  by_cases q2 : s 4 = 2
  · rw [if_pos q2] at hv ⊢
    rw [if_pos (jb_nz.mp hv)]
    exact Nx_su h1 (by decide)
  rw [if_neg q2] at hv ⊢
  by_cases q3 : s 4 = 3
  · rw [if_pos q3] at hv ⊢
    rw [if_pos (jb_nz.mp hv)]
    exact Nx_su h1 (by decide)
  rw [if_neg q3] at hv ⊢
  by_cases q4 : s 4 = 4
  · rw [if_pos q4] at hv ⊢
    rw [if_pos (jb_nz.mp hv)]
    exact Nx_push h1
  rw [if_neg q4] at hv ⊢
  by_cases q5 : s 4 = 5
  · rw [if_pos q5] at hv ⊢
    by_cases q : s 10 = 41
    · rw [if_pos q]; exact Nx_endBr ⟨h5 q5, h1.2⟩
    · rw [if_neg q] at hv ⊢; exact Nx_spt h1 hv
  rw [if_neg q5] at hv ⊢
  by_cases q6 : s 4 = 6
  · rw [if_pos q6] at hv ⊢; exact Nx_spt h1 hv
  rw [if_neg q6] at hv ⊢
  by_cases q7 : s 4 = 7
  · rw [if_pos q7] at hv ⊢; exact Nx_go h1 hv
  rw [if_neg q7] at hv ⊢
  by_cases q8 : s 4 = 8
  · rw [if_pos q8] at hv ⊢
    rw [if_pos (jb_nz.mp hv)]
    exact Nx_su h1 (by decide)
  rw [if_neg q8] at hv ⊢
  by_cases q9 : s 4 = 9
  · rw [if_pos q9] at hv ⊢
    rw [if_pos (jb_nz.mp hv)]
    exact Nx_stBl h1
  · rw [if_neg q9] at hv ⊢; exact Nx_stm h1 hv
theorem RdI_ok {k : Nat} {s : Nat → Int} (h : RdI k s) (hk : k ≤ 300) : RdOk s := by
  obtain ⟨h1, h2, h6, -⟩ := h
  exact ⟨h1, by omega, by omega⟩
theorem RdI_sc {k n : Nat} {f : Nat → Int} {s : Nat → Int} (h : RdI k s) (hn : n ≤ 800) : RdI k (scS f n s) := by
  obtain ⟨h1, h2, h6, h3, h5, h9⟩ := h
  have ht := tk_le (f := f) (n := n) (i := (s 9).toNat) (by omega) hn
  unfold RdI
  rw [scS_v f n s (by decide) (by decide) (by decide), scS_v f n s (by decide) (by decide) (by decide), scS_v f n s (by decide) (by decide) (by decide), scS_v f n s (by decide) (by decide) (by decide), scS_v f n s (by decide) (by decide) (by decide), scS_9]
  exact ⟨h1, h2, h6, h3, h5, by omega⟩
theorem RdI_std {k n : Nat} {s r : Nat → Int} (h : RdI k s) (hv : stdV s r ≠ 0) (hm : ¬ tooB n (stdS s r) = true) : RdI (k + 1) (stdS s r) := by
  obtain ⟨h1, h2, h6, h3, h5, h9⟩ := h
  obtain ⟨n1, n8, n9, n10⟩ := Nx_std h1 h5 hv
  have h3' : stdS s r 3 = 0 := by
    unfold tooB at hm
    simp only [decide_eq_true_eq] at hm
    omega
  obtain ⟨m1, m2, m6, m4⟩ := n1 h3'
  exact ⟨m1, by omega, by omega, h3', m4, by omega⟩
theorem read_loop {x : Nat} {q : Nat → Nat} {n : Nat} (h : RdL E P rd op) (hx : TxL E P x q) (hq : TxD q) (hqo : ∀ j, j ≤ 7 → q j ≠ op) (hn : I x 9 = (n : Int)) (hn2 : n ≤ 800) (hd : 8 ≤ d) :
    ∀ (k i : Nat) (s r : Nat → Int) (ts : List T5), i + k = 201 → ts.length = i → RdI i s → jJ E yX3_read.cls cX3_read 3 (some .int) (jRm d) (jZ E (jD (some (ji (rdGo (I (q 0)) n k s r ts).1)) (rdRM I x q rd op (rdGo (I (q 0)) n k s r ts)) P)) 0 0 42 [some (jp rd), some (jp x), some (ji (i : Int))] [] (rdM (tkM I x q ts) rd op s r) P := by
  have h0 := h.1
  have hx0 := hx
  obtain ⟨g0, ⟨p0, p1, p2, p3, p4, p5, p6, p7⟩, ⟨a0, a1, a2, a3, a4, a5, a6, a7⟩⟩ := hx
  have n1 : x ≠ rd := jne g0.2 h.1.2 (by decide)
  have n2 : x ≠ op := jne g0.2 h.2.2.2.1 (by decide)
  have hxq : ∀ j, j ≤ 7 → x ≠ q j := by
    intro j hj
    have : j = 0 ∨ j = 1 ∨ j = 2 ∨ j = 3 ∨ j = 4 ∨ j = 5 ∨ j = 6 ∨ j = 7 := by omega
    rcases this with rfl | rfl | rfl | rfl | rfl | rfl | rfl | rfl
    · exact jne g0.2 a0.2.1 (by decide)
    · exact jne g0.2 a1.2.1 (by decide)
    · exact jne g0.2 a2.2.1 (by decide)
    · exact jne g0.2 a3.2.1 (by decide)
    · exact jne g0.2 a4.2.1 (by decide)
    · exact jne g0.2 a5.2.1 (by decide)
    · exact jne g0.2 a6.2.1 (by decide)
    · exact jne g0.2 a7.2.1 (by decide)
  have hqr : ∀ j, j ≤ 7 → q j ≠ rd := by
    intro j hj
    have : j = 0 ∨ j = 1 ∨ j = 2 ∨ j = 3 ∨ j = 4 ∨ j = 5 ∨ j = 6 ∨ j = 7 := by omega
    rcases this with rfl | rfl | rfl | rfl | rfl | rfl | rfl | rfl
    · exact jne a0.2.1 h0.2 (by decide)
    · exact jne a1.2.1 h0.2 (by decide)
    · exact jne a2.2.1 h0.2 (by decide)
    · exact jne a3.2.1 h0.2 (by decide)
    · exact jne a4.2.1 h0.2 (by decide)
    · exact jne a5.2.1 h0.2 (by decide)
    · exact jne a6.2.1 h0.2 (by decide)
    · exact jne a7.2.1 h0.2 (by decide)
  have b0 : ∀ ts, tkM I x q ts (q 0) = I (q 0) := fun ts => funext (fun k => tkM_x (Ne.symm (hxq 0 (by decide))) (fun z => by have := hq 0 1 (by decide) (by decide) z; omega) (fun z => by have := hq 0 2 (by decide) (by decide) z; omega) (fun z => by have := hq 0 3 (by decide) (by decide) z; omega) (fun z => by have := hq 0 4 (by decide) (by decide) z; omega) (fun z => by have := hq 0 5 (by decide) (by decide) z; omega) k)
  have b9 : ∀ ts, tkM I x q ts x 9 = (n : Int) := fun ts => by rw [tkM_f hxq (by decide), hn]
  intro k
  induction k with
  | zero =>
    intro i s r ts hi hts hI
    refine jJ_iload_n (pc := 42) dX3_read_42 rfl ?_
    refine jJ_sipush (pc := 43) dX3_read_43 (by decide) ?_
    refine jJ_icmp_gt (pc := 46) (tgt := 175) dX3_read_46 (by decide) (fun c46 => ?_) (fun c46 => ?_)
    · refine jJ_aload_n (pc := 175) dX3_read_175 rfl ?_
      refine jJ_iconst (pc := 176) dX3_read_176 (by decide) ?_
      refine jJ_aload_n (pc := 177) dX3_read_177 rfl ?_
      refine jJ_geti (pc := 178) dX3_read_178 fX3_55 rfl (by assumption) ?_
      try simp only [rdM_g1, rdM_g2, rdM_g3, rdM_g4, rdM_g5, rdM_g6, rdM_g7, rdM_g8, rdM_g9, rdM_g10, rdM_p1, rdM_p2, rdM_p3, rdM_p4, rdM_p5, rdM_p6, rdM_p7, rdM_p8, rdM_p9, rdM_p10, rdM_r, rdM_w, su_s, su_1_2, su_1_3, su_1_4, su_1_5, su_1_6, su_1_7, su_1_8, su_1_9, su_1_10, su_2_1, su_2_3, su_2_4, su_2_5, su_2_6, su_2_7, su_2_8, su_2_9, su_2_10, su_3_1, su_3_2, su_3_4, su_3_5, su_3_6, su_3_7, su_3_8, su_3_9, su_3_10, su_4_1, su_4_2, su_4_3, su_4_5, su_4_6, su_4_7, su_4_8, su_4_9, su_4_10, su_5_1, su_5_2, su_5_3, su_5_4, su_5_6, su_5_7, su_5_8, su_5_9, su_5_10, su_6_1, su_6_2, su_6_3, su_6_4, su_6_5, su_6_7, su_6_8, su_6_9, su_6_10, su_7_1, su_7_2, su_7_3, su_7_4, su_7_5, su_7_6, su_7_8, su_7_9, su_7_10, su_8_1, su_8_2, su_8_3, su_8_4, su_8_5, su_8_6, su_8_7, su_8_9, su_8_10, su_9_1, su_9_2, su_9_3, su_9_4, su_9_5, su_9_6, su_9_7, su_9_8, su_9_10, su_10_1, su_10_2, su_10_3, su_10_4, su_10_5, su_10_6, su_10_7, su_10_8, su_10_9]
      refine jJ_callVd (pc := 181) (as := [_, _]) dX3_read_181 mX3_58 (jRcv_of (by assumption) rfl rfl) (Nat.le_of_ble_eq_true rfl) (jRm_ok (by omega) (by decide)) (c_Rd_faultAt (d := d - 1) h) ?_
      refine jJ_iret (pc := 184) dX3_read_184 rfl ?_
      exact ⟨rfl, rfl, rfl⟩
    · exfalso
      omega
  | succ k ih =>
    intro i s r ts hi hts hI
    obtain ⟨h1, h2, h6, h3, h5, h9⟩ := id hI
    have hsc := RdI_sc (f := I (q 0)) (n := n) hI hn2
    have hok := RdI_ok hsc (by omega)
    refine jJ_iload_n (pc := 42) dX3_read_42 rfl ?_
    refine jJ_sipush (pc := 43) dX3_read_43 (by decide) ?_
    refine jJ_icmp_gt (pc := 46) (tgt := 175) dX3_read_46 (by decide) (fun c46 => ?_) (fun c46 => ?_)
    · exfalso
      omega
    · refine jJ_aload_n (pc := 49) dX3_read_49 rfl ?_
      refine jJ_aload_n (pc := 50) dX3_read_50 rfl ?_
      refine jJ_callVd (pc := 51) (as := [_]) dX3_read_51 mX3_41 (jRcv_of (by assumption) rfl rfl) (Nat.le_of_ble_eq_true rfl) (jRm_ok (by omega) (by decide)) (c_Rd_scan (d := d - 1) h hx0 (hqo 0 (by decide)) (b9 ts) hn2 h9 (by omega)) ?_
      rw [b0]
      refine jJ_aload_n (pc := 54) dX3_read_54 rfl ?_
      refine jJ_geti (pc := 55) dX3_read_55 fX3_45 rfl (by assumption) ?_
      try simp only [rdM_g1, rdM_g2, rdM_g3, rdM_g4, rdM_g5, rdM_g6, rdM_g7, rdM_g8, rdM_g9, rdM_g10, rdM_p1, rdM_p2, rdM_p3, rdM_p4, rdM_p5, rdM_p6, rdM_p7, rdM_p8, rdM_p9, rdM_p10, rdM_r, rdM_w, su_s, su_1_2, su_1_3, su_1_4, su_1_5, su_1_6, su_1_7, su_1_8, su_1_9, su_1_10, su_2_1, su_2_3, su_2_4, su_2_5, su_2_6, su_2_7, su_2_8, su_2_9, su_2_10, su_3_1, su_3_2, su_3_4, su_3_5, su_3_6, su_3_7, su_3_8, su_3_9, su_3_10, su_4_1, su_4_2, su_4_3, su_4_5, su_4_6, su_4_7, su_4_8, su_4_9, su_4_10, su_5_1, su_5_2, su_5_3, su_5_4, su_5_6, su_5_7, su_5_8, su_5_9, su_5_10, su_6_1, su_6_2, su_6_3, su_6_4, su_6_5, su_6_7, su_6_8, su_6_9, su_6_10, su_7_1, su_7_2, su_7_3, su_7_4, su_7_5, su_7_6, su_7_8, su_7_9, su_7_10, su_8_1, su_8_2, su_8_3, su_8_4, su_8_5, su_8_6, su_8_7, su_8_9, su_8_10, su_9_1, su_9_2, su_9_3, su_9_4, su_9_5, su_9_6, su_9_7, su_9_8, su_9_10, su_10_1, su_10_2, su_10_3, su_10_4, su_10_5, su_10_6, su_10_7, su_10_8, su_10_9]
      refine jJ_bipush (pc := 58) dX3_read_58 (by decide) ?_
      refine jJ_icmp_ne (pc := 60) (tgt := 92) dX3_read_60 (by decide) (fun c60 => ?_) (fun c60 => ?_)
      · refine jJ_aload_n (pc := 92) dX3_read_92 rfl ?_
        refine jJ_callVd (pc := 93) (as := []) dX3_read_93 mX3_62 (jRcv_of (by assumption) rfl rfl) (Nat.le_of_ble_eq_true rfl) (jRm_ok (by omega) (by decide)) (c_Rd_stands (d := d - 1) h hok (by omega)) ?_
        refine jJ_if_ne (pc := 96) (tgt := 109) dX3_read_96 (by decide) (fun c96 => ?_) (fun c96 => ?_)
        · have hI2 := fun hm => RdI_std (n := ts.length) hsc c96 hm
          obtain ⟨nx1, nx8, nx9, nx10⟩ := Nx_std hsc.1 hsc.2.2.2.2.1 c96
          have ht := tk_le (f := I (q 0)) (n := n) (i := (s 9).toNat) (by omega) hn2
          rw [scS_8] at nx8
          rw [scS_9] at nx9
          refine jJ_aload_n (pc := 109) dX3_read_109 rfl ?_
          refine jJ_aload_n (pc := 110) dX3_read_110 rfl ?_
          refine jJ_callVd (pc := 111) (as := [_]) dX3_read_111 mX3_65 (jRcv_of (by assumption) rfl rfl) (Nat.le_of_ble_eq_true rfl) (jRm_ok (by omega) (by decide)) (c_Rd_isTooMuch (d := d - 1) h hx0 (by rw [nx8]; omega) (by rw [nx9]; omega) (by omega)) ?_
          rw [tkM_n]
          refine jJ_if_eq (pc := 114) (tgt := 127) dX3_read_114 (by decide) (fun c114 => ?_) (fun c114 => ?_)
          · simp only [jb_z] at c114
            have hm : ¬ tooB ts.length (stdS (scS (I (q 0)) n s) r) = true := by unfold tooB; simpa using c114
            have hI3 := hI2 hm
            have key : ∀ dpv : Int, dpv = (if stdS (scS (I (q 0)) n s) r 10 = 123 then stdS (scS (I (q 0)) n s) r 2 - 1 else stdS (scS (I (q 0)) n s) r 2) → jJ E yX3_read.cls cX3_read 3 (some .int) (jRm d) (jZ E (jD (some (ji (rdGo (I (q 0)) n (k + 1) s r ts).1)) (rdRM I x q rd op (rdGo (I (q 0)) n (k + 1) s r ts)) P)) 0 0 162 [some (jp rd), some (jp x), some (ji (i : Int))] [ji dpv, ji (stdS (scS (I (q 0)) n s) r 10), ji (stdS (scS (I (q 0)) n s) r 9), ji (stdS (scS (I (q 0)) n s) r 8), jp x] (rdM (tkM I x q ts) rd op (stdS (scS (I (q 0)) n s) r) (stdR (scS (I (q 0)) n s) r)) P := by
              intro dpv hdp
              refine jJ_aload_n (pc := 162) dX3_read_162 rfl ?_
              refine jJ_geti (pc := 163) dX3_read_163 fX3_32 rfl (by assumption) ?_
              try simp only [rdM_g1, rdM_g2, rdM_g3, rdM_g4, rdM_g5, rdM_g6, rdM_g7, rdM_g8, rdM_g9, rdM_g10, rdM_p1, rdM_p2, rdM_p3, rdM_p4, rdM_p5, rdM_p6, rdM_p7, rdM_p8, rdM_p9, rdM_p10, rdM_r, rdM_w, su_s, su_1_2, su_1_3, su_1_4, su_1_5, su_1_6, su_1_7, su_1_8, su_1_9, su_1_10, su_2_1, su_2_3, su_2_4, su_2_5, su_2_6, su_2_7, su_2_8, su_2_9, su_2_10, su_3_1, su_3_2, su_3_4, su_3_5, su_3_6, su_3_7, su_3_8, su_3_9, su_3_10, su_4_1, su_4_2, su_4_3, su_4_5, su_4_6, su_4_7, su_4_8, su_4_9, su_4_10, su_5_1, su_5_2, su_5_3, su_5_4, su_5_6, su_5_7, su_5_8, su_5_9, su_5_10, su_6_1, su_6_2, su_6_3, su_6_4, su_6_5, su_6_7, su_6_8, su_6_9, su_6_10, su_7_1, su_7_2, su_7_3, su_7_4, su_7_5, su_7_6, su_7_8, su_7_9, su_7_10, su_8_1, su_8_2, su_8_3, su_8_4, su_8_5, su_8_6, su_8_7, su_8_9, su_8_10, su_9_1, su_9_2, su_9_3, su_9_4, su_9_5, su_9_6, su_9_7, su_9_8, su_9_10, su_10_1, su_10_2, su_10_3, su_10_4, su_10_5, su_10_6, su_10_7, su_10_8, su_10_9]
              refine jJ_callVd (pc := 166) (as := [_, _, _, _, _]) dX3_read_166 mX3_69 (jRcv_of g0 rfl rfl) (Nat.le_of_ble_eq_true rfl) (jRm_ok (by omega) (by decide)) (c_Text_addToken (d := d - 1) hx0 (by rw [rdM_x n1 n2, tkM_n]; omega)) ?_
              rw [tokM_rd n1 n2 hqr hqo, tkM_add hxq hq]
              refine jJ_iinc (pc := 169) (ls' := [_, _, _]) dX3_read_169 rfl ⟨by omega, by omega⟩ rfl ?_
              refine jJ_goto (pc := 172) (tgt := 42) dX3_read_172 (by decide) ?_
              have e1 : rdGo (I (q 0)) n (k + 1) s r ts = rdGo (I (q 0)) n k (stdS (scS (I (q 0)) n s) r) (stdR (scS (I (q 0)) n s) r) (ts ++ [tokOf (stdS (scS (I (q 0)) n s) r)]) := by
                rw [rdGo, if_neg c60, if_neg c96, if_neg hm]
              rw [e1]
              subst hdp
              exact ih (i + 1) _ _ (ts ++ [tokOf (stdS (scS (I (q 0)) n s) r)]) (by omega) (by simp; omega) hI3
            refine jJ_aload_n (pc := 127) dX3_read_127 rfl ?_
            refine jJ_aload_n (pc := 128) dX3_read_128 rfl ?_
            refine jJ_geti (pc := 129) dX3_read_129 fX3_55 rfl (by assumption) ?_
            try simp only [rdM_g1, rdM_g2, rdM_g3, rdM_g4, rdM_g5, rdM_g6, rdM_g7, rdM_g8, rdM_g9, rdM_g10, rdM_p1, rdM_p2, rdM_p3, rdM_p4, rdM_p5, rdM_p6, rdM_p7, rdM_p8, rdM_p9, rdM_p10, rdM_r, rdM_w, su_s, su_1_2, su_1_3, su_1_4, su_1_5, su_1_6, su_1_7, su_1_8, su_1_9, su_1_10, su_2_1, su_2_3, su_2_4, su_2_5, su_2_6, su_2_7, su_2_8, su_2_9, su_2_10, su_3_1, su_3_2, su_3_4, su_3_5, su_3_6, su_3_7, su_3_8, su_3_9, su_3_10, su_4_1, su_4_2, su_4_3, su_4_5, su_4_6, su_4_7, su_4_8, su_4_9, su_4_10, su_5_1, su_5_2, su_5_3, su_5_4, su_5_6, su_5_7, su_5_8, su_5_9, su_5_10, su_6_1, su_6_2, su_6_3, su_6_4, su_6_5, su_6_7, su_6_8, su_6_9, su_6_10, su_7_1, su_7_2, su_7_3, su_7_4, su_7_5, su_7_6, su_7_8, su_7_9, su_7_10, su_8_1, su_8_2, su_8_3, su_8_4, su_8_5, su_8_6, su_8_7, su_8_9, su_8_10, su_9_1, su_9_2, su_9_3, su_9_4, su_9_5, su_9_6, su_9_7, su_9_8, su_9_10, su_10_1, su_10_2, su_10_3, su_10_4, su_10_5, su_10_6, su_10_7, su_10_8, su_10_9]
            refine jJ_aload_n (pc := 132) dX3_read_132 rfl ?_
            refine jJ_geti (pc := 133) dX3_read_133 fX3_38 rfl (by assumption) ?_
            try simp only [rdM_g1, rdM_g2, rdM_g3, rdM_g4, rdM_g5, rdM_g6, rdM_g7, rdM_g8, rdM_g9, rdM_g10, rdM_p1, rdM_p2, rdM_p3, rdM_p4, rdM_p5, rdM_p6, rdM_p7, rdM_p8, rdM_p9, rdM_p10, rdM_r, rdM_w, su_s, su_1_2, su_1_3, su_1_4, su_1_5, su_1_6, su_1_7, su_1_8, su_1_9, su_1_10, su_2_1, su_2_3, su_2_4, su_2_5, su_2_6, su_2_7, su_2_8, su_2_9, su_2_10, su_3_1, su_3_2, su_3_4, su_3_5, su_3_6, su_3_7, su_3_8, su_3_9, su_3_10, su_4_1, su_4_2, su_4_3, su_4_5, su_4_6, su_4_7, su_4_8, su_4_9, su_4_10, su_5_1, su_5_2, su_5_3, su_5_4, su_5_6, su_5_7, su_5_8, su_5_9, su_5_10, su_6_1, su_6_2, su_6_3, su_6_4, su_6_5, su_6_7, su_6_8, su_6_9, su_6_10, su_7_1, su_7_2, su_7_3, su_7_4, su_7_5, su_7_6, su_7_8, su_7_9, su_7_10, su_8_1, su_8_2, su_8_3, su_8_4, su_8_5, su_8_6, su_8_7, su_8_9, su_8_10, su_9_1, su_9_2, su_9_3, su_9_4, su_9_5, su_9_6, su_9_7, su_9_8, su_9_10, su_10_1, su_10_2, su_10_3, su_10_4, su_10_5, su_10_6, su_10_7, su_10_8, su_10_9]
            refine jJ_aload_n (pc := 136) dX3_read_136 rfl ?_
            refine jJ_geti (pc := 137) dX3_read_137 fX3_45 rfl (by assumption) ?_
            try simp only [rdM_g1, rdM_g2, rdM_g3, rdM_g4, rdM_g5, rdM_g6, rdM_g7, rdM_g8, rdM_g9, rdM_g10, rdM_p1, rdM_p2, rdM_p3, rdM_p4, rdM_p5, rdM_p6, rdM_p7, rdM_p8, rdM_p9, rdM_p10, rdM_r, rdM_w, su_s, su_1_2, su_1_3, su_1_4, su_1_5, su_1_6, su_1_7, su_1_8, su_1_9, su_1_10, su_2_1, su_2_3, su_2_4, su_2_5, su_2_6, su_2_7, su_2_8, su_2_9, su_2_10, su_3_1, su_3_2, su_3_4, su_3_5, su_3_6, su_3_7, su_3_8, su_3_9, su_3_10, su_4_1, su_4_2, su_4_3, su_4_5, su_4_6, su_4_7, su_4_8, su_4_9, su_4_10, su_5_1, su_5_2, su_5_3, su_5_4, su_5_6, su_5_7, su_5_8, su_5_9, su_5_10, su_6_1, su_6_2, su_6_3, su_6_4, su_6_5, su_6_7, su_6_8, su_6_9, su_6_10, su_7_1, su_7_2, su_7_3, su_7_4, su_7_5, su_7_6, su_7_8, su_7_9, su_7_10, su_8_1, su_8_2, su_8_3, su_8_4, su_8_5, su_8_6, su_8_7, su_8_9, su_8_10, su_9_1, su_9_2, su_9_3, su_9_4, su_9_5, su_9_6, su_9_7, su_9_8, su_9_10, su_10_1, su_10_2, su_10_3, su_10_4, su_10_5, su_10_6, su_10_7, su_10_8, su_10_9]
            refine jJ_aload_n (pc := 140) dX3_read_140 rfl ?_
            refine jJ_geti (pc := 141) dX3_read_141 fX3_45 rfl (by assumption) ?_
            try simp only [rdM_g1, rdM_g2, rdM_g3, rdM_g4, rdM_g5, rdM_g6, rdM_g7, rdM_g8, rdM_g9, rdM_g10, rdM_p1, rdM_p2, rdM_p3, rdM_p4, rdM_p5, rdM_p6, rdM_p7, rdM_p8, rdM_p9, rdM_p10, rdM_r, rdM_w, su_s, su_1_2, su_1_3, su_1_4, su_1_5, su_1_6, su_1_7, su_1_8, su_1_9, su_1_10, su_2_1, su_2_3, su_2_4, su_2_5, su_2_6, su_2_7, su_2_8, su_2_9, su_2_10, su_3_1, su_3_2, su_3_4, su_3_5, su_3_6, su_3_7, su_3_8, su_3_9, su_3_10, su_4_1, su_4_2, su_4_3, su_4_5, su_4_6, su_4_7, su_4_8, su_4_9, su_4_10, su_5_1, su_5_2, su_5_3, su_5_4, su_5_6, su_5_7, su_5_8, su_5_9, su_5_10, su_6_1, su_6_2, su_6_3, su_6_4, su_6_5, su_6_7, su_6_8, su_6_9, su_6_10, su_7_1, su_7_2, su_7_3, su_7_4, su_7_5, su_7_6, su_7_8, su_7_9, su_7_10, su_8_1, su_8_2, su_8_3, su_8_4, su_8_5, su_8_6, su_8_7, su_8_9, su_8_10, su_9_1, su_9_2, su_9_3, su_9_4, su_9_5, su_9_6, su_9_7, su_9_8, su_9_10, su_10_1, su_10_2, su_10_3, su_10_4, su_10_5, su_10_6, su_10_7, su_10_8, su_10_9]
            refine jJ_bipush (pc := 144) dX3_read_144 (by decide) ?_
            obtain ⟨j1, j2, -⟩ := id hI3
            refine jJ_icmp_ne (pc := 146) (tgt := 158) dX3_read_146 (by decide) (fun c146 => ?_) (fun c146 => ?_)
            · refine jJ_aload_n (pc := 158) dX3_read_158 rfl ?_
              refine jJ_geti (pc := 159) dX3_read_159 fX3_22 rfl (by assumption) ?_
              try simp only [rdM_g1, rdM_g2, rdM_g3, rdM_g4, rdM_g5, rdM_g6, rdM_g7, rdM_g8, rdM_g9, rdM_g10, rdM_p1, rdM_p2, rdM_p3, rdM_p4, rdM_p5, rdM_p6, rdM_p7, rdM_p8, rdM_p9, rdM_p10, rdM_r, rdM_w, su_s, su_1_2, su_1_3, su_1_4, su_1_5, su_1_6, su_1_7, su_1_8, su_1_9, su_1_10, su_2_1, su_2_3, su_2_4, su_2_5, su_2_6, su_2_7, su_2_8, su_2_9, su_2_10, su_3_1, su_3_2, su_3_4, su_3_5, su_3_6, su_3_7, su_3_8, su_3_9, su_3_10, su_4_1, su_4_2, su_4_3, su_4_5, su_4_6, su_4_7, su_4_8, su_4_9, su_4_10, su_5_1, su_5_2, su_5_3, su_5_4, su_5_6, su_5_7, su_5_8, su_5_9, su_5_10, su_6_1, su_6_2, su_6_3, su_6_4, su_6_5, su_6_7, su_6_8, su_6_9, su_6_10, su_7_1, su_7_2, su_7_3, su_7_4, su_7_5, su_7_6, su_7_8, su_7_9, su_7_10, su_8_1, su_8_2, su_8_3, su_8_4, su_8_5, su_8_6, su_8_7, su_8_9, su_8_10, su_9_1, su_9_2, su_9_3, su_9_4, su_9_5, su_9_6, su_9_7, su_9_8, su_9_10, su_10_1, su_10_2, su_10_3, su_10_4, su_10_5, su_10_6, su_10_7, su_10_8, su_10_9]
              exact key _ (by rw [if_neg c146])
            · refine jJ_aload_n (pc := 149) dX3_read_149 rfl ?_
              refine jJ_geti (pc := 150) dX3_read_150 fX3_22 rfl (by assumption) ?_
              try simp only [rdM_g1, rdM_g2, rdM_g3, rdM_g4, rdM_g5, rdM_g6, rdM_g7, rdM_g8, rdM_g9, rdM_g10, rdM_p1, rdM_p2, rdM_p3, rdM_p4, rdM_p5, rdM_p6, rdM_p7, rdM_p8, rdM_p9, rdM_p10, rdM_r, rdM_w, su_s, su_1_2, su_1_3, su_1_4, su_1_5, su_1_6, su_1_7, su_1_8, su_1_9, su_1_10, su_2_1, su_2_3, su_2_4, su_2_5, su_2_6, su_2_7, su_2_8, su_2_9, su_2_10, su_3_1, su_3_2, su_3_4, su_3_5, su_3_6, su_3_7, su_3_8, su_3_9, su_3_10, su_4_1, su_4_2, su_4_3, su_4_5, su_4_6, su_4_7, su_4_8, su_4_9, su_4_10, su_5_1, su_5_2, su_5_3, su_5_4, su_5_6, su_5_7, su_5_8, su_5_9, su_5_10, su_6_1, su_6_2, su_6_3, su_6_4, su_6_5, su_6_7, su_6_8, su_6_9, su_6_10, su_7_1, su_7_2, su_7_3, su_7_4, su_7_5, su_7_6, su_7_8, su_7_9, su_7_10, su_8_1, su_8_2, su_8_3, su_8_4, su_8_5, su_8_6, su_8_7, su_8_9, su_8_10, su_9_1, su_9_2, su_9_3, su_9_4, su_9_5, su_9_6, su_9_7, su_9_8, su_9_10, su_10_1, su_10_2, su_10_3, su_10_4, su_10_5, su_10_6, su_10_7, su_10_8, su_10_9]
              refine jJ_iconst (pc := 153) dX3_read_153 (by decide) ?_
              refine jJ_isub (pc := 154) dX3_read_154 ⟨by omega, by omega⟩ ?_
              refine jJ_goto (pc := 155) (tgt := 162) dX3_read_155 (by decide) ?_
              exact key _ (by rw [if_pos c146])
          · simp only [jb_nz] at c114
            have hm : tooB ts.length (stdS (scS (I (q 0)) n s) r) = true := by unfold tooB; simpa using c114
            refine jJ_aload_n (pc := 117) dX3_read_117 rfl ?_
            refine jJ_iconst (pc := 118) dX3_read_118 (by decide) ?_
            refine jJ_aload_n (pc := 119) dX3_read_119 rfl ?_
            refine jJ_geti (pc := 120) dX3_read_120 fX3_55 rfl (by assumption) ?_
            try simp only [rdM_g1, rdM_g2, rdM_g3, rdM_g4, rdM_g5, rdM_g6, rdM_g7, rdM_g8, rdM_g9, rdM_g10, rdM_p1, rdM_p2, rdM_p3, rdM_p4, rdM_p5, rdM_p6, rdM_p7, rdM_p8, rdM_p9, rdM_p10, rdM_r, rdM_w, su_s, su_1_2, su_1_3, su_1_4, su_1_5, su_1_6, su_1_7, su_1_8, su_1_9, su_1_10, su_2_1, su_2_3, su_2_4, su_2_5, su_2_6, su_2_7, su_2_8, su_2_9, su_2_10, su_3_1, su_3_2, su_3_4, su_3_5, su_3_6, su_3_7, su_3_8, su_3_9, su_3_10, su_4_1, su_4_2, su_4_3, su_4_5, su_4_6, su_4_7, su_4_8, su_4_9, su_4_10, su_5_1, su_5_2, su_5_3, su_5_4, su_5_6, su_5_7, su_5_8, su_5_9, su_5_10, su_6_1, su_6_2, su_6_3, su_6_4, su_6_5, su_6_7, su_6_8, su_6_9, su_6_10, su_7_1, su_7_2, su_7_3, su_7_4, su_7_5, su_7_6, su_7_8, su_7_9, su_7_10, su_8_1, su_8_2, su_8_3, su_8_4, su_8_5, su_8_6, su_8_7, su_8_9, su_8_10, su_9_1, su_9_2, su_9_3, su_9_4, su_9_5, su_9_6, su_9_7, su_9_8, su_9_10, su_10_1, su_10_2, su_10_3, su_10_4, su_10_5, su_10_6, su_10_7, su_10_8, su_10_9]
            refine jJ_callVd (pc := 123) (as := [_, _]) dX3_read_123 mX3_58 (jRcv_of (by assumption) rfl rfl) (Nat.le_of_ble_eq_true rfl) (jRm_ok (by omega) (by decide)) (c_Rd_faultAt (d := d - 1) h) ?_
            refine jJ_iret (pc := 126) dX3_read_126 rfl ?_
            have e1 : rdGo (I (q 0)) n (k + 1) s r ts = (2, su (stdS (scS (I (q 0)) n s) r) 7 ((stdS (scS (I (q 0)) n s) r) 8), stdR (scS (I (q 0)) n s) r, ts, false) := by
              rw [rdGo, if_neg c60, if_neg c96, if_pos hm]
            rw [e1]
            exact ⟨rfl, rfl, rfl⟩
        · refine jJ_aload_n (pc := 99) dX3_read_99 rfl ?_
          refine jJ_iconst (pc := 100) dX3_read_100 (by decide) ?_
          refine jJ_aload_n (pc := 101) dX3_read_101 rfl ?_
          refine jJ_geti (pc := 102) dX3_read_102 fX3_55 rfl (by assumption) ?_
          try simp only [rdM_g1, rdM_g2, rdM_g3, rdM_g4, rdM_g5, rdM_g6, rdM_g7, rdM_g8, rdM_g9, rdM_g10, rdM_p1, rdM_p2, rdM_p3, rdM_p4, rdM_p5, rdM_p6, rdM_p7, rdM_p8, rdM_p9, rdM_p10, rdM_r, rdM_w, su_s, su_1_2, su_1_3, su_1_4, su_1_5, su_1_6, su_1_7, su_1_8, su_1_9, su_1_10, su_2_1, su_2_3, su_2_4, su_2_5, su_2_6, su_2_7, su_2_8, su_2_9, su_2_10, su_3_1, su_3_2, su_3_4, su_3_5, su_3_6, su_3_7, su_3_8, su_3_9, su_3_10, su_4_1, su_4_2, su_4_3, su_4_5, su_4_6, su_4_7, su_4_8, su_4_9, su_4_10, su_5_1, su_5_2, su_5_3, su_5_4, su_5_6, su_5_7, su_5_8, su_5_9, su_5_10, su_6_1, su_6_2, su_6_3, su_6_4, su_6_5, su_6_7, su_6_8, su_6_9, su_6_10, su_7_1, su_7_2, su_7_3, su_7_4, su_7_5, su_7_6, su_7_8, su_7_9, su_7_10, su_8_1, su_8_2, su_8_3, su_8_4, su_8_5, su_8_6, su_8_7, su_8_9, su_8_10, su_9_1, su_9_2, su_9_3, su_9_4, su_9_5, su_9_6, su_9_7, su_9_8, su_9_10, su_10_1, su_10_2, su_10_3, su_10_4, su_10_5, su_10_6, su_10_7, su_10_8, su_10_9]
          refine jJ_callVd (pc := 105) (as := [_, _]) dX3_read_105 mX3_58 (jRcv_of (by assumption) rfl rfl) (Nat.le_of_ble_eq_true rfl) (jRm_ok (by omega) (by decide)) (c_Rd_faultAt (d := d - 1) h) ?_
          refine jJ_iret (pc := 108) dX3_read_108 rfl ?_
          have e1 : rdGo (I (q 0)) n (k + 1) s r ts = (1, su (stdS (scS (I (q 0)) n s) r) 7 ((stdS (scS (I (q 0)) n s) r) 8), stdR (scS (I (q 0)) n s) r, ts, false) := by
            rw [rdGo, if_neg c60, if_pos c96]
          rw [e1]
          exact ⟨rfl, rfl, rfl⟩
      · refine jJ_aload_n (pc := 63) dX3_read_63 rfl ?_
        refine jJ_aload_n (pc := 64) dX3_read_64 rfl ?_
        refine jJ_geti (pc := 65) dX3_read_65 fX3_35 rfl (by assumption) ?_
        try simp only [rdM_g1, rdM_g2, rdM_g3, rdM_g4, rdM_g5, rdM_g6, rdM_g7, rdM_g8, rdM_g9, rdM_g10, rdM_p1, rdM_p2, rdM_p3, rdM_p4, rdM_p5, rdM_p6, rdM_p7, rdM_p8, rdM_p9, rdM_p10, rdM_r, rdM_w, su_s, su_1_2, su_1_3, su_1_4, su_1_5, su_1_6, su_1_7, su_1_8, su_1_9, su_1_10, su_2_1, su_2_3, su_2_4, su_2_5, su_2_6, su_2_7, su_2_8, su_2_9, su_2_10, su_3_1, su_3_2, su_3_4, su_3_5, su_3_6, su_3_7, su_3_8, su_3_9, su_3_10, su_4_1, su_4_2, su_4_3, su_4_5, su_4_6, su_4_7, su_4_8, su_4_9, su_4_10, su_5_1, su_5_2, su_5_3, su_5_4, su_5_6, su_5_7, su_5_8, su_5_9, su_5_10, su_6_1, su_6_2, su_6_3, su_6_4, su_6_5, su_6_7, su_6_8, su_6_9, su_6_10, su_7_1, su_7_2, su_7_3, su_7_4, su_7_5, su_7_6, su_7_8, su_7_9, su_7_10, su_8_1, su_8_2, su_8_3, su_8_4, su_8_5, su_8_6, su_8_7, su_8_9, su_8_10, su_9_1, su_9_2, su_9_3, su_9_4, su_9_5, su_9_6, su_9_7, su_9_8, su_9_10, su_10_1, su_10_2, su_10_3, su_10_4, su_10_5, su_10_6, su_10_7, su_10_8, su_10_9]
        refine jJ_puti (pc := 68) dX3_read_68 fX3_48w rfl ⟨rfl, rfl⟩ g0 ?_
        rw [rdM_put n1 n2]
        refine jJ_aload_n (pc := 71) dX3_read_71 rfl ?_
        refine jJ_callVd (pc := 72) (as := []) dX3_read_72 mX3_51 (jRcv_of (by assumption) rfl rfl) (Nat.le_of_ble_eq_true rfl) (jRm_ok (by omega) (by decide)) (c_Rd_mayEnd (d := d - 1) h) ?_
        refine jJ_if_eq (pc := 75) (tgt := 82) dX3_read_75 (by decide) (fun c75 => ?_) (fun c75 => ?_)
        · simp only [jb_z] at c75
          refine jJ_aload_n (pc := 82) dX3_read_82 rfl ?_
          refine jJ_iconst (pc := 83) dX3_read_83 (by decide) ?_
          refine jJ_aload_n (pc := 84) dX3_read_84 rfl ?_
          refine jJ_geti (pc := 85) dX3_read_85 fX3_55 rfl (by assumption) ?_
          try simp only [rdM_g1, rdM_g2, rdM_g3, rdM_g4, rdM_g5, rdM_g6, rdM_g7, rdM_g8, rdM_g9, rdM_g10, rdM_p1, rdM_p2, rdM_p3, rdM_p4, rdM_p5, rdM_p6, rdM_p7, rdM_p8, rdM_p9, rdM_p10, rdM_r, rdM_w, su_s, su_1_2, su_1_3, su_1_4, su_1_5, su_1_6, su_1_7, su_1_8, su_1_9, su_1_10, su_2_1, su_2_3, su_2_4, su_2_5, su_2_6, su_2_7, su_2_8, su_2_9, su_2_10, su_3_1, su_3_2, su_3_4, su_3_5, su_3_6, su_3_7, su_3_8, su_3_9, su_3_10, su_4_1, su_4_2, su_4_3, su_4_5, su_4_6, su_4_7, su_4_8, su_4_9, su_4_10, su_5_1, su_5_2, su_5_3, su_5_4, su_5_6, su_5_7, su_5_8, su_5_9, su_5_10, su_6_1, su_6_2, su_6_3, su_6_4, su_6_5, su_6_7, su_6_8, su_6_9, su_6_10, su_7_1, su_7_2, su_7_3, su_7_4, su_7_5, su_7_6, su_7_8, su_7_9, su_7_10, su_8_1, su_8_2, su_8_3, su_8_4, su_8_5, su_8_6, su_8_7, su_8_9, su_8_10, su_9_1, su_9_2, su_9_3, su_9_4, su_9_5, su_9_6, su_9_7, su_9_8, su_9_10, su_10_1, su_10_2, su_10_3, su_10_4, su_10_5, su_10_6, su_10_7, su_10_8, su_10_9]
          refine jJ_callVd (pc := 88) (as := [_, _]) dX3_read_88 mX3_58 (jRcv_of (by assumption) rfl rfl) (Nat.le_of_ble_eq_true rfl) (jRm_ok (by omega) (by decide)) (c_Rd_faultAt (d := d - 1) h) ?_
          refine jJ_iret (pc := 91) dX3_read_91 rfl ?_
          have e1 : rdGo (I (q 0)) n (k + 1) s r ts = (1, su (scS (I (q 0)) n s) 7 ((scS (I (q 0)) n s) 8), r, ts, true) := by
            rw [rdGo, if_pos c60, if_neg c75]
          rw [e1]
          exact ⟨rfl, rfl, rfl⟩
        · simp only [jb_nz] at c75
          refine jJ_iconst (pc := 78) dX3_read_78 (by decide) ?_
          refine jJ_goto (pc := 79) (tgt := 91) dX3_read_79 (by decide) ?_
          refine jJ_iret (pc := 91) dX3_read_91 rfl ?_
          have e1 : rdGo (I (q 0)) n (k + 1) s r ts = (0, scS (I (q 0)) n s, r, ts, true) := by
            rw [rdGo, if_pos c60, if_pos c75]
          rw [e1]
          exact ⟨rfl, rfl, rfl⟩
/-- the reader's numbers where it begins, over what was there -/
def rdS0 (h : Nat → Int) : Nat → Int := su (su (su (su (su (su (su (su h 1 0) 2 0) 3 0) 4 0) 5 0) 6 0) 7 (-1)) 9 0
theorem c_Rd_read {x : Nat} {q : Nat → Nat} {n : Nat} (h : RdL E P rd op) (hx : TxL E P x q) (hq : TxD q) (hqo : ∀ j, j ≤ 7 → q j ≠ op) (hn : I x 9 = (n : Int)) (hn2 : n ≤ 800) (hc : I x 11 = 0) (hd : 8 ≤ d) : jC E yX3_read cX3_read 3 (some .int) d [jp rd, jp x] I P (jD (some (ji (rdGo (I (q 0)) n 201 (rdS0 (I rd)) (I op) []).1)) (rdRM I x q rd op (rdGo (I (q 0)) n 201 (rdS0 (I rd)) (I op) [])) P) := by
  have h0 := h.1
  have e0 : tkM I x q [] = I := by
    funext a k
    simp only [tkM, List.length_nil, Nat.not_lt_zero, and_false, if_false]
    split
    · next z => rw [z.1, z.2, hc]; rfl
    · rfl
  have key : jJ E yX3_read.cls cX3_read 3 (some .int) (jRm d) (jZ E (jD (some (ji (rdGo (I (q 0)) n 201 (rdS0 (I rd)) (I op) []).1)) (rdRM I x q rd op (rdGo (I (q 0)) n 201 (rdS0 (I rd)) (I op) [])) P)) 0 0 0 (jEnt [jp rd, jp x] 3) [] (rdM I rd op (I rd) (I op)) P := by
    refine jJ_aload_n (pc := 0) dX3_read_0 rfl ?_
    refine jJ_iconst (pc := 1) dX3_read_1 (by decide) ?_
    refine jJ_puti (pc := 2) dX3_read_2 fX3_19w rfl ⟨rfl, rfl⟩ (by assumption) ?_
    try simp only [rdM_g1, rdM_g2, rdM_g3, rdM_g4, rdM_g5, rdM_g6, rdM_g7, rdM_g8, rdM_g9, rdM_g10, rdM_p1, rdM_p2, rdM_p3, rdM_p4, rdM_p5, rdM_p6, rdM_p7, rdM_p8, rdM_p9, rdM_p10, rdM_r, rdM_w, su_s, su_1_2, su_1_3, su_1_4, su_1_5, su_1_6, su_1_7, su_1_8, su_1_9, su_1_10, su_2_1, su_2_3, su_2_4, su_2_5, su_2_6, su_2_7, su_2_8, su_2_9, su_2_10, su_3_1, su_3_2, su_3_4, su_3_5, su_3_6, su_3_7, su_3_8, su_3_9, su_3_10, su_4_1, su_4_2, su_4_3, su_4_5, su_4_6, su_4_7, su_4_8, su_4_9, su_4_10, su_5_1, su_5_2, su_5_3, su_5_4, su_5_6, su_5_7, su_5_8, su_5_9, su_5_10, su_6_1, su_6_2, su_6_3, su_6_4, su_6_5, su_6_7, su_6_8, su_6_9, su_6_10, su_7_1, su_7_2, su_7_3, su_7_4, su_7_5, su_7_6, su_7_8, su_7_9, su_7_10, su_8_1, su_8_2, su_8_3, su_8_4, su_8_5, su_8_6, su_8_7, su_8_9, su_8_10, su_9_1, su_9_2, su_9_3, su_9_4, su_9_5, su_9_6, su_9_7, su_9_8, su_9_10, su_10_1, su_10_2, su_10_3, su_10_4, su_10_5, su_10_6, su_10_7, su_10_8, su_10_9]
    refine jJ_aload_n (pc := 5) dX3_read_5 rfl ?_
    refine jJ_iconst (pc := 6) dX3_read_6 (by decide) ?_
    refine jJ_puti (pc := 7) dX3_read_7 fX3_22w rfl ⟨rfl, rfl⟩ (by assumption) ?_
    try simp only [rdM_g1, rdM_g2, rdM_g3, rdM_g4, rdM_g5, rdM_g6, rdM_g7, rdM_g8, rdM_g9, rdM_g10, rdM_p1, rdM_p2, rdM_p3, rdM_p4, rdM_p5, rdM_p6, rdM_p7, rdM_p8, rdM_p9, rdM_p10, rdM_r, rdM_w, su_s, su_1_2, su_1_3, su_1_4, su_1_5, su_1_6, su_1_7, su_1_8, su_1_9, su_1_10, su_2_1, su_2_3, su_2_4, su_2_5, su_2_6, su_2_7, su_2_8, su_2_9, su_2_10, su_3_1, su_3_2, su_3_4, su_3_5, su_3_6, su_3_7, su_3_8, su_3_9, su_3_10, su_4_1, su_4_2, su_4_3, su_4_5, su_4_6, su_4_7, su_4_8, su_4_9, su_4_10, su_5_1, su_5_2, su_5_3, su_5_4, su_5_6, su_5_7, su_5_8, su_5_9, su_5_10, su_6_1, su_6_2, su_6_3, su_6_4, su_6_5, su_6_7, su_6_8, su_6_9, su_6_10, su_7_1, su_7_2, su_7_3, su_7_4, su_7_5, su_7_6, su_7_8, su_7_9, su_7_10, su_8_1, su_8_2, su_8_3, su_8_4, su_8_5, su_8_6, su_8_7, su_8_9, su_8_10, su_9_1, su_9_2, su_9_3, su_9_4, su_9_5, su_9_6, su_9_7, su_9_8, su_9_10, su_10_1, su_10_2, su_10_3, su_10_4, su_10_5, su_10_6, su_10_7, su_10_8, su_10_9]
    refine jJ_aload_n (pc := 10) dX3_read_10 rfl ?_
    refine jJ_iconst (pc := 11) dX3_read_11 (by decide) ?_
    refine jJ_puti (pc := 12) dX3_read_12 fX3_25w rfl ⟨by decide, by decide⟩ (by assumption) ?_
    try simp only [rdM_g1, rdM_g2, rdM_g3, rdM_g4, rdM_g5, rdM_g6, rdM_g7, rdM_g8, rdM_g9, rdM_g10, rdM_p1, rdM_p2, rdM_p3, rdM_p4, rdM_p5, rdM_p6, rdM_p7, rdM_p8, rdM_p9, rdM_p10, rdM_r, rdM_w, su_s, su_1_2, su_1_3, su_1_4, su_1_5, su_1_6, su_1_7, su_1_8, su_1_9, su_1_10, su_2_1, su_2_3, su_2_4, su_2_5, su_2_6, su_2_7, su_2_8, su_2_9, su_2_10, su_3_1, su_3_2, su_3_4, su_3_5, su_3_6, su_3_7, su_3_8, su_3_9, su_3_10, su_4_1, su_4_2, su_4_3, su_4_5, su_4_6, su_4_7, su_4_8, su_4_9, su_4_10, su_5_1, su_5_2, su_5_3, su_5_4, su_5_6, su_5_7, su_5_8, su_5_9, su_5_10, su_6_1, su_6_2, su_6_3, su_6_4, su_6_5, su_6_7, su_6_8, su_6_9, su_6_10, su_7_1, su_7_2, su_7_3, su_7_4, su_7_5, su_7_6, su_7_8, su_7_9, su_7_10, su_8_1, su_8_2, su_8_3, su_8_4, su_8_5, su_8_6, su_8_7, su_8_9, su_8_10, su_9_1, su_9_2, su_9_3, su_9_4, su_9_5, su_9_6, su_9_7, su_9_8, su_9_10, su_10_1, su_10_2, su_10_3, su_10_4, su_10_5, su_10_6, su_10_7, su_10_8, su_10_9]
    refine jJ_aload_n (pc := 15) dX3_read_15 rfl ?_
    refine jJ_iconst (pc := 16) dX3_read_16 (by decide) ?_
    refine jJ_puti (pc := 17) dX3_read_17 fX3_29w rfl ⟨rfl, rfl⟩ (by assumption) ?_
    try simp only [rdM_g1, rdM_g2, rdM_g3, rdM_g4, rdM_g5, rdM_g6, rdM_g7, rdM_g8, rdM_g9, rdM_g10, rdM_p1, rdM_p2, rdM_p3, rdM_p4, rdM_p5, rdM_p6, rdM_p7, rdM_p8, rdM_p9, rdM_p10, rdM_r, rdM_w, su_s, su_1_2, su_1_3, su_1_4, su_1_5, su_1_6, su_1_7, su_1_8, su_1_9, su_1_10, su_2_1, su_2_3, su_2_4, su_2_5, su_2_6, su_2_7, su_2_8, su_2_9, su_2_10, su_3_1, su_3_2, su_3_4, su_3_5, su_3_6, su_3_7, su_3_8, su_3_9, su_3_10, su_4_1, su_4_2, su_4_3, su_4_5, su_4_6, su_4_7, su_4_8, su_4_9, su_4_10, su_5_1, su_5_2, su_5_3, su_5_4, su_5_6, su_5_7, su_5_8, su_5_9, su_5_10, su_6_1, su_6_2, su_6_3, su_6_4, su_6_5, su_6_7, su_6_8, su_6_9, su_6_10, su_7_1, su_7_2, su_7_3, su_7_4, su_7_5, su_7_6, su_7_8, su_7_9, su_7_10, su_8_1, su_8_2, su_8_3, su_8_4, su_8_5, su_8_6, su_8_7, su_8_9, su_8_10, su_9_1, su_9_2, su_9_3, su_9_4, su_9_5, su_9_6, su_9_7, su_9_8, su_9_10, su_10_1, su_10_2, su_10_3, su_10_4, su_10_5, su_10_6, su_10_7, su_10_8, su_10_9]
    refine jJ_aload_n (pc := 20) dX3_read_20 rfl ?_
    refine jJ_iconst (pc := 21) dX3_read_21 (by decide) ?_
    refine jJ_puti (pc := 22) dX3_read_22 fX3_32w rfl ⟨rfl, rfl⟩ (by assumption) ?_
    try simp only [rdM_g1, rdM_g2, rdM_g3, rdM_g4, rdM_g5, rdM_g6, rdM_g7, rdM_g8, rdM_g9, rdM_g10, rdM_p1, rdM_p2, rdM_p3, rdM_p4, rdM_p5, rdM_p6, rdM_p7, rdM_p8, rdM_p9, rdM_p10, rdM_r, rdM_w, su_s, su_1_2, su_1_3, su_1_4, su_1_5, su_1_6, su_1_7, su_1_8, su_1_9, su_1_10, su_2_1, su_2_3, su_2_4, su_2_5, su_2_6, su_2_7, su_2_8, su_2_9, su_2_10, su_3_1, su_3_2, su_3_4, su_3_5, su_3_6, su_3_7, su_3_8, su_3_9, su_3_10, su_4_1, su_4_2, su_4_3, su_4_5, su_4_6, su_4_7, su_4_8, su_4_9, su_4_10, su_5_1, su_5_2, su_5_3, su_5_4, su_5_6, su_5_7, su_5_8, su_5_9, su_5_10, su_6_1, su_6_2, su_6_3, su_6_4, su_6_5, su_6_7, su_6_8, su_6_9, su_6_10, su_7_1, su_7_2, su_7_3, su_7_4, su_7_5, su_7_6, su_7_8, su_7_9, su_7_10, su_8_1, su_8_2, su_8_3, su_8_4, su_8_5, su_8_6, su_8_7, su_8_9, su_8_10, su_9_1, su_9_2, su_9_3, su_9_4, su_9_5, su_9_6, su_9_7, su_9_8, su_9_10, su_10_1, su_10_2, su_10_3, su_10_4, su_10_5, su_10_6, su_10_7, su_10_8, su_10_9]
    refine jJ_aload_n (pc := 25) dX3_read_25 rfl ?_
    refine jJ_iconst (pc := 26) dX3_read_26 (by decide) ?_
    refine jJ_puti (pc := 27) dX3_read_27 fX3_35w rfl ⟨rfl, rfl⟩ (by assumption) ?_
    try simp only [rdM_g1, rdM_g2, rdM_g3, rdM_g4, rdM_g5, rdM_g6, rdM_g7, rdM_g8, rdM_g9, rdM_g10, rdM_p1, rdM_p2, rdM_p3, rdM_p4, rdM_p5, rdM_p6, rdM_p7, rdM_p8, rdM_p9, rdM_p10, rdM_r, rdM_w, su_s, su_1_2, su_1_3, su_1_4, su_1_5, su_1_6, su_1_7, su_1_8, su_1_9, su_1_10, su_2_1, su_2_3, su_2_4, su_2_5, su_2_6, su_2_7, su_2_8, su_2_9, su_2_10, su_3_1, su_3_2, su_3_4, su_3_5, su_3_6, su_3_7, su_3_8, su_3_9, su_3_10, su_4_1, su_4_2, su_4_3, su_4_5, su_4_6, su_4_7, su_4_8, su_4_9, su_4_10, su_5_1, su_5_2, su_5_3, su_5_4, su_5_6, su_5_7, su_5_8, su_5_9, su_5_10, su_6_1, su_6_2, su_6_3, su_6_4, su_6_5, su_6_7, su_6_8, su_6_9, su_6_10, su_7_1, su_7_2, su_7_3, su_7_4, su_7_5, su_7_6, su_7_8, su_7_9, su_7_10, su_8_1, su_8_2, su_8_3, su_8_4, su_8_5, su_8_6, su_8_7, su_8_9, su_8_10, su_9_1, su_9_2, su_9_3, su_9_4, su_9_5, su_9_6, su_9_7, su_9_8, su_9_10, su_10_1, su_10_2, su_10_3, su_10_4, su_10_5, su_10_6, su_10_7, su_10_8, su_10_9]
    refine jJ_aload_n (pc := 30) dX3_read_30 rfl ?_
    refine jJ_iconst (pc := 31) dX3_read_31 (by decide) ?_
    refine jJ_puti (pc := 32) dX3_read_32 fX3_15w rfl ⟨rfl, rfl⟩ (by assumption) ?_
    try simp only [rdM_g1, rdM_g2, rdM_g3, rdM_g4, rdM_g5, rdM_g6, rdM_g7, rdM_g8, rdM_g9, rdM_g10, rdM_p1, rdM_p2, rdM_p3, rdM_p4, rdM_p5, rdM_p6, rdM_p7, rdM_p8, rdM_p9, rdM_p10, rdM_r, rdM_w, su_s, su_1_2, su_1_3, su_1_4, su_1_5, su_1_6, su_1_7, su_1_8, su_1_9, su_1_10, su_2_1, su_2_3, su_2_4, su_2_5, su_2_6, su_2_7, su_2_8, su_2_9, su_2_10, su_3_1, su_3_2, su_3_4, su_3_5, su_3_6, su_3_7, su_3_8, su_3_9, su_3_10, su_4_1, su_4_2, su_4_3, su_4_5, su_4_6, su_4_7, su_4_8, su_4_9, su_4_10, su_5_1, su_5_2, su_5_3, su_5_4, su_5_6, su_5_7, su_5_8, su_5_9, su_5_10, su_6_1, su_6_2, su_6_3, su_6_4, su_6_5, su_6_7, su_6_8, su_6_9, su_6_10, su_7_1, su_7_2, su_7_3, su_7_4, su_7_5, su_7_6, su_7_8, su_7_9, su_7_10, su_8_1, su_8_2, su_8_3, su_8_4, su_8_5, su_8_6, su_8_7, su_8_9, su_8_10, su_9_1, su_9_2, su_9_3, su_9_4, su_9_5, su_9_6, su_9_7, su_9_8, su_9_10, su_10_1, su_10_2, su_10_3, su_10_4, su_10_5, su_10_6, su_10_7, su_10_8, su_10_9]
    refine jJ_aload_n (pc := 35) dX3_read_35 rfl ?_
    refine jJ_iconst (pc := 36) dX3_read_36 (by decide) ?_
    refine jJ_puti (pc := 37) dX3_read_37 fX3_38w rfl ⟨rfl, rfl⟩ (by assumption) ?_
    try simp only [rdM_g1, rdM_g2, rdM_g3, rdM_g4, rdM_g5, rdM_g6, rdM_g7, rdM_g8, rdM_g9, rdM_g10, rdM_p1, rdM_p2, rdM_p3, rdM_p4, rdM_p5, rdM_p6, rdM_p7, rdM_p8, rdM_p9, rdM_p10, rdM_r, rdM_w, su_s, su_1_2, su_1_3, su_1_4, su_1_5, su_1_6, su_1_7, su_1_8, su_1_9, su_1_10, su_2_1, su_2_3, su_2_4, su_2_5, su_2_6, su_2_7, su_2_8, su_2_9, su_2_10, su_3_1, su_3_2, su_3_4, su_3_5, su_3_6, su_3_7, su_3_8, su_3_9, su_3_10, su_4_1, su_4_2, su_4_3, su_4_5, su_4_6, su_4_7, su_4_8, su_4_9, su_4_10, su_5_1, su_5_2, su_5_3, su_5_4, su_5_6, su_5_7, su_5_8, su_5_9, su_5_10, su_6_1, su_6_2, su_6_3, su_6_4, su_6_5, su_6_7, su_6_8, su_6_9, su_6_10, su_7_1, su_7_2, su_7_3, su_7_4, su_7_5, su_7_6, su_7_8, su_7_9, su_7_10, su_8_1, su_8_2, su_8_3, su_8_4, su_8_5, su_8_6, su_8_7, su_8_9, su_8_10, su_9_1, su_9_2, su_9_3, su_9_4, su_9_5, su_9_6, su_9_7, su_9_8, su_9_10, su_10_1, su_10_2, su_10_3, su_10_4, su_10_5, su_10_6, su_10_7, su_10_8, su_10_9]
    refine jJ_iconst (pc := 40) dX3_read_40 (by decide) ?_
    refine jJ_istore_n (pc := 41) (ls' := [_, _, _]) dX3_read_41 (Nat.le_of_ble_eq_true rfl) rfl ?_
    have k := read_loop h hx hq hqo hn hn2 hd 201 0 (rdS0 (I rd)) (I op) [] (by omega) rfl (by unfold RdI rdS0; simp [su])
    rw [e0] at k
    exact k
  rw [rdM_self] at key
  refine jC_intro (by decide +kernel) (by simp [jc, va_rf, Value.category]) (Nat.le_of_ble_eq_true rfl) ?_
  exact key
end JRead
