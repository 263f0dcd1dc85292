section JInd
/-- two readers hold the same numbers -/
def Ag (u v : Nat → Int) : Prop := ∀ j, 1 ≤ j → j ≤ 10 → u j = v j
def AgR (r r' : Nat → Int) (n : Int) : Prop := ∀ j : Nat, (j : Int) < n → r j = r' j
variable {u v r r' : Nat → Int}
theorem Ag.su (h : Ag u v) (k : Nat) (x : Int) : Ag (su u k x) (su v k x) := by
  intro j h1 h2
  rw [su_at, su_at]
  split
  · rfl
  · exact h j h1 h2
theorem Ag.inn (h : Ag u v) (hr : AgR r r' (u 1)) : rInner v r' = rInner u r := rInner_cg (h 1 (by decide) (by decide)).symm (fun j hj => (hr j hj).symm)
theorem Ag.push (h : Ag u v) : Ag (pushS u) (pushS v) := by
  unfold pushS
  rw [← h 1 (by decide) (by decide)]
  split
  · exact h.su 1 _
  · exact h.su 3 _
theorem Ag_ite {p : Prop} [Decidable p] {a b a' b' : Nat → Int} (h1 : Ag a a') (h2 : Ag b b') : Ag (if p then a else b) (if p then a' else b') := by split <;> assumption
/-- a step of the reader hangs on its numbers alone -/
theorem Ag_std (h : Ag u v) (hr : AgR r r' (u 1)) : stdV v r' = stdV u r ∧ Ag (stdS u r) (stdS v r') := by
  have e1 := (h 1 (by decide) (by decide)).symm
  have e2 := (h 2 (by decide) (by decide)).symm
  have e4 := (h 4 (by decide) (by decide)).symm
  have e5 := (h 5 (by decide) (by decide)).symm
  have e6 := (h 6 (by decide) (by decide)).symm
  have e10 := (h 10 (by decide) (by decide)).symm
  have ei := h.inn hr
  constructor
  · unfold stdV sptV goV stmV
    rw [e4, e10, e5, ei]
  · unfold stdS sptS goS stmS endBrS endBlS stBlS ownS
    rw [e4, e10, e5, ei, e1, e2, e6]
    repeat' (first | apply Ag_ite | exact h | apply Ag.push | apply Ag.su)
/-- where a reader stands: what is open agrees below -/
theorem AgR_std (h : Ag u v) (hr : AgR r r' (u 1)) (hA : AI u r) (h30 : u 3 = 0) (hv : stdV u r ≠ 0) (h3 : stdS u r 3 = 0) : AgR (stdR u r) (stdR v r') (stdS u r 1) := by
  have e1 := (h 1 (by decide) (by decide)).symm
  have e4 := (h 4 (by decide) (by decide)).symm
  have e5 := (h 5 (by decide) (by decide)).symm
  have e10 := (h 10 (by decide) (by decide)).symm
  have ei := h.inn hr
  have ha1 := hA.1
  have h4 := hA.2.2.2.2.2
  obtain ⟨-, sp1, sp2⟩ := Sp_std ha1 h30 hv
  have lt6 : u 10 = 123 ∨ u 10 = 40 → u 1 < 6 ∧ stdS u r 1 = u 1 + 1 := fun z => by
    have := sp1 z
    by_cases q : u 1 < 6
    · exact ⟨q, (this.1 q).1⟩
    · exact absurd h3 (this.2 (by omega))
  have pR : ∀ (w w' : Nat → Int) (x : Int), (u 10 = 123 ∨ u 10 = 40) → w 1 = u 1 → w' 1 = u 1 → AgR (pushR w r x) (pushR w' r' x) (stdS u r 1) := by
    intro w w' x ho hw hw' j hj
    obtain ⟨q, q1⟩ := lt6 ho
    unfold pushR
    rw [hw, hw', if_pos q, if_pos q, su_at, su_at]
    split
    · rfl
    · exact hr j (by omega)
  by_cases op : u 10 = 123 ∨ u 10 = 40
  · have q : u 4 = 0 ∨ u 4 = 1 ∨ u 4 = 2 ∨ u 4 = 3 ∨ u 4 = 4 ∨ u 4 = 5 ∨ u 4 = 6 ∨ u 4 = 7 ∨ u 4 = 8 ∨ u 4 = 9 := by omega
    have spt : (u 4 = 6 ∨ (u 4 = 5 ∧ u 10 ≠ 41)) → AgR (stdR u r) (stdR v r') (stdS u r 1) := by
      intro z
      obtain ⟨t1, t2, t3⟩ := std_6 (r := r) z
      obtain ⟨t1', t2', t3'⟩ := std_6 (u := v) (r := r') (by rw [e4, e10]; exact z)
      rw [t1] at hv
      rw [t3, t3']
      unfold sptR
      rw [e10]
      by_cases q4 : u 10 = 40
      · rw [if_pos q4, if_pos q4]
        exact pR _ _ 0 op rfl e1
      · exact absurd (spt_no (by omega) q4) hv
    rcases q with q | q | q | q | q | q | q | q | q | q
    · rw [(std_0 (r := r) (Or.inl q)).1] at hv
      exact absurd (stm_no (by omega) (by omega) (by omega) (by omega) (by omega) (by omega)) hv
    · rw [(std_0 (r := r) (Or.inr q)).1] at hv
      exact absurd (stm_no (by omega) (by omega) (by omega) (by omega) (by omega) (by omega)) hv
    · rw [(std_2 (r := r) q).1, ← jb_f (by omega)] at hv
      exact absurd rfl hv
    · rw [(std_3 (r := r) q).1, ← jb_f (by omega)] at hv
      exact absurd rfl hv
    · obtain ⟨t1, t2, t3⟩ := std_4 (r := r) q
      obtain ⟨t1', t2', t3'⟩ := std_4 (u := v) (r := r') (by rw [e4]; exact q)
      rw [t1] at hv
      rw [t3, t3', e10, if_pos (jb_nz.mp hv), if_pos (jb_nz.mp hv)]
      exact pR _ _ 1 op rfl e1
    · exact spt (Or.inr ⟨q, by omega⟩)
    · exact spt (Or.inl q)
    · obtain ⟨t1, t2, t3⟩ := std_7 (r := r) q
      obtain ⟨t1', t2', t3'⟩ := std_7 (u := v) (r := r') (by rw [e4]; exact q)
      rw [t1] at hv
      rw [t3, t3']
      unfold goV at hv
      unfold goR
      rw [e10, ei, e5]
      have nop : ¬ (u 10 = 43 ∨ u 10 = 45 ∨ u 10 = 60) := by omega
      rw [if_neg nop] at hv
      rw [if_neg nop, if_neg nop]
      by_cases i0 : rInner u r = 0
      · rw [if_pos i0, ← jb_f (by omega)] at hv
        exact absurd rfl hv
      · rw [if_neg i0] at hv
        rw [if_neg i0, if_neg i0]
        by_cases i1 : rInner u r = 1
        · rw [if_pos i1, if_neg (by omega), ← jb_f (by omega)] at hv
          exact absurd rfl hv
        · rw [if_neg i1] at hv
          rw [if_neg i1, if_neg i1]
          by_cases q5 : u 5 = 0
          · rw [if_pos q5, ← jb_f (by omega)] at hv
            exact absurd rfl hv
          · rw [if_neg q5] at hv
            rw [if_neg q5, if_neg q5, if_pos (jb_nz.mp hv), if_pos (jb_nz.mp hv)]
            unfold stBlR
            exact pR _ _ _ op rfl e1
    · rw [(std_8 (r := r) q).1, ← jb_f (by omega)] at hv
      exact absurd rfl hv
    · obtain ⟨t1, t2, t3⟩ := std_9 (r := r) q
      obtain ⟨t1', t2', t3'⟩ := std_9 (u := v) (r := r') (by rw [e4]; exact q)
      rw [t1] at hv
      rw [t3, t3', e10, if_pos (jb_nz.mp hv), if_pos (jb_nz.mp hv)]
      unfold stBlR
      exact pR _ _ 3 op rfl e1
  · have n40 : ¬ u 10 = 40 := fun z => op (Or.inr z)
    have n123 : ¬ u 10 = 123 := fun z => op (Or.inl z)
    have er : stdR u r = r := by unfold stdR sptR goR; simp [n40, n123]
    have er' : stdR v r' = r' := by unfold stdR sptR goR; rw [e10]; simp [n40, n123]
    rw [er, er']
    intro j hj
    refine hr j ?_
    have := (sp2 op).1
    split at this <;> omega
/-- the reading's FAULT, its place, the TOKENS and the STATEMENTS hang on the bytes alone -/
theorem rdGo_ind {f : Nat → Int} {n : Nat} : ∀ (k : Nat) (s s' r r' : Nat → Int) (ts : List T5), (∀ j, 1 ≤ j → j ≤ 9 → j ≠ 8 → s j = s' j) → AgR r r' (s 1) → AI s r → s 3 = 0 → (rdGo f n (k + 1) s r ts).1 = (rdGo f n (k + 1) s' r' ts).1 ∧ (rdGo f n (k + 1) s r ts).2.1 7 = (rdGo f n (k + 1) s' r' ts).2.1 7 ∧ (rdGo f n (k + 1) s r ts).2.1 6 = (rdGo f n (k + 1) s' r' ts).2.1 6 ∧ (rdGo f n (k + 1) s r ts).2.2.2.1 = (rdGo f n (k + 1) s' r' ts).2.2.2.1 := by
  have main : ∀ (k : Nat) (s s' r r' : Nat → Int) (ts : List T5), (∀ j, 1 ≤ j → j ≤ 9 → j ≠ 8 → s j = s' j) → AgR r r' (s 1) → AI s r → s 3 = 0 → (k = 0 → s 8 = s' 8) → (rdGo f n k s r ts).1 = (rdGo f n k s' r' ts).1 ∧ (rdGo f n k s r ts).2.1 7 = (rdGo f n k s' r' ts).2.1 7 ∧ (rdGo f n k s r ts).2.1 6 = (rdGo f n k s' r' ts).2.1 6 ∧ (rdGo f n k s r ts).2.2.2.1 = (rdGo f n k s' r' ts).2.2.2.1 := by
    intro k
    induction k with
    | zero =>
      intro s s' r r' ts hs hr hA h3 h8
      exact ⟨rfl, h8 rfl, hs 6 (by decide) (by decide) (by decide), rfl⟩
    | succ k ih =>
      intro s s' r r' ts hs hr hA h3 _
      have e9 : s' 9 = s 9 := (hs 9 (by decide) (by decide) (by decide)).symm
      have hAg : Ag (scS f n s) (scS f n s') := by
        intro j h1 h2
        by_cases q8 : j = 8
        · subst q8; rw [scS_8, scS_8, e9]
        · by_cases q9 : j = 9
          · subst q9; rw [scS_9, scS_9, e9]
          · by_cases q10 : j = 10
            · subst q10; rw [scS_10, scS_10, e9]
            · rw [scS_v f n s q8 q9 q10, scS_v f n s' q8 q9 q10]
              exact hs j h1 (by omega) q8
      have g1 := hAg 1 (by decide) (by decide)
      have g4 := hAg 4 (by decide) (by decide)
      have g6 := hAg 6 (by decide) (by decide)
      have g7 := hAg 7 (by decide) (by decide)
      have g8 := hAg 8 (by decide) (by decide)
      have g10 := hAg 10 (by decide) (by decide)
      obtain ⟨sv, ss⟩ := Ag_std hAg (r := r) (r' := r') hr
      have s6 := ss 6 (by decide) (by decide)
      have s8 := ss 8 (by decide) (by decide)
      simp only [rdGo]
      rw [← g10, ← g1, ← g4, sv]
      by_cases q8 : scS f n s 10 = 8
      · rw [if_pos q8, if_pos q8]
        by_cases q : scS f n s 1 = 0 ∧ (scS f n s 4 = 0 ∨ scS f n s 4 = 1)
        · rw [if_pos q, if_pos q]
          exact ⟨rfl, g7, g6, rfl⟩
        · rw [if_neg q, if_neg q]
          exact ⟨rfl, g8, g6, rfl⟩
      · rw [if_neg q8, if_neg q8]
        by_cases qv : stdV (scS f n s) r = 0
        · rw [if_pos qv, if_pos qv]
          exact ⟨rfl, s8, s6, rfl⟩
        · rw [if_neg qv, if_neg qv]
          have et : tooB ts.length (stdS (scS f n s') r') = tooB ts.length (stdS (scS f n s) r) := by
            unfold tooB
            rw [ss 3 (by decide) (by decide), ss 10 (by decide) (by decide), ss 9 (by decide) (by decide), s8]
          rw [et]
          by_cases qt : tooB ts.length (stdS (scS f n s) r) = true
          · rw [if_pos qt, if_pos qt]
            exact ⟨rfl, s8, s6, rfl⟩
          · rw [if_neg qt, if_neg qt]
            have h3' : stdS (scS f n s) r 3 = 0 := by
              have : ¬ (200 ≤ (ts.length : Int) ∨ stdS (scS f n s) r 3 ≠ 0 ∨ (stdS (scS f n s) r 10 = 1 ∧ 16 < stdS (scS f n s) r 9 - stdS (scS f n s) r 8) ∨ (stdS (scS f n s) r 10 = 2 ∧ 6 < stdS (scS f n s) r 9 - stdS (scS f n s) r 8)) := fun z => qt (by unfold tooB; exact decide_eq_true z)
              omega
            have etk : tokOf (stdS (scS f n s') r') = tokOf (stdS (scS f n s) r) := by
              unfold tokOf
              rw [ss 10 (by decide) (by decide), ss 9 (by decide) (by decide), s8, ss 2 (by decide) (by decide), ss 5 (by decide) (by decide)]
            rw [etk]
            exact ih _ _ _ _ _ (fun j h1 h2 _ => ss j h1 (by omega)) (AgR_std hAg hr (AI_sc hA) h3 qv h3') (AI_std (AI_sc hA) qv h3') h3' (fun _ => s8)
  intro k s s' r r' ts hs hr hA h3
  exact main (k + 1) s s' r r' ts hs hr hA h3 (fun z => absurd z (by omega))
theorem read_ind {f : Nat → Int} {n : Nat} (h h' r r' : Nat → Int) : (rdGo f n 201 (rdS0 h) r []).1 = (rdGo f n 201 (rdS0 h') r' []).1 ∧ (rdGo f n 201 (rdS0 h) r []).2.1 7 = (rdGo f n 201 (rdS0 h') r' []).2.1 7 ∧ (rdGo f n 201 (rdS0 h) r []).2.1 6 = (rdGo f n 201 (rdS0 h') r' []).2.1 6 ∧ (rdGo f n 201 (rdS0 h) r []).2.2.2.1 = (rdGo f n 201 (rdS0 h') r' []).2.2.2.1 := by
  refine rdGo_ind 200 _ _ _ _ _ (fun j h1 h2 h8 => ?_) (fun j hj => absurd hj (by show ¬ (j : Int) < 0; omega)) (AI_0 h r) rfl
  have q : j = 1 ∨ j = 2 ∨ j = 3 ∨ j = 4 ∨ j = 5 ∨ j = 6 ∨ j = 7 ∨ j = 9 := by omega
  rcases q with rfl | rfl | rfl | rfl | rfl | rfl | rfl | rfl <;> rfl
end JInd
