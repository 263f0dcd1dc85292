section JTok
/-! what the reading leaves: the TOKENS are in range -/
theorem std_5 {s r : Nat → Int} (h : 0 ≤ s 5 ∧ s 5 ≤ 3) : 0 ≤ stdS s r 5 ∧ stdS s r 5 ≤ 3 := by
  have hp : ∀ v, pushS (su s 4 v) 5 = s 5 := by intro v; unfold pushS; split <;> rfl
  have hb : stBlS s 5 = s 5 := by unfold stBlS pushS; split <;> rfl
  have hebr : endBrS s r 5 = s 5 := rfl
  have hspt : sptS s 5 = s 5 := by
    unfold sptS
    split
    · exact hp 6
    · split <;> rfl
  unfold stdS
  by_cases q2 : s 4 = 2
  · rw [if_pos q2]; split <;> exact h
  rw [if_neg q2]
  by_cases q3 : s 4 = 3
  · rw [if_pos q3]; split <;> exact h
  rw [if_neg q3]
  by_cases q4 : s 4 = 4
  · rw [if_pos q4]
    split
    · rw [hp]; exact h
    · exact h
  rw [if_neg q4]
  by_cases q5 : s 4 = 5
  · rw [if_pos q5]
    split
    · exact h
    · rw [hspt]; exact h
  rw [if_neg q5]
  by_cases q6 : s 4 = 6
  · rw [if_pos q6, hspt]; exact h
  rw [if_neg q6]
  by_cases q7 : s 4 = 7
  · rw [if_pos q7]
    unfold goS
    (repeat' split) <;> first | exact h | (rw [hb]; exact h)
  rw [if_neg q7]
  by_cases q8 : s 4 = 8
  · rw [if_pos q8]; split <;> exact h
  rw [if_neg q8]
  by_cases q9 : s 4 = 9
  · rw [if_pos q9]
    split
    · rw [hb]; exact h
    · exact h
  rw [if_neg q9]
  unfold stmS
  (repeat' split) <;> first | exact h | (show (0 : Int) ≤ 0 ∧ (0 : Int) ≤ 3; decide) | (show (0 : Int) ≤ 1 ∧ (1 : Int) ≤ 3; decide) | (show (0 : Int) ≤ 2 ∧ (2 : Int) ≤ 3; decide) | (show (0 : Int) ≤ 3 ∧ (3 : Int) ≤ 3; decide) | skip
  unfold endBlS
  split
  · exact h
  · show 0 ≤ (if rInner s r = 4 then (3 : Int) else 2) ∧ (if rInner s r = 4 then (3 : Int) else 2) ≤ 3
    split <;> decide
/-- a TOKEN's numbers -/
def TkOk (t : T5) : Prop := (0 ≤ t.1 ∧ t.1 ≤ t.2.1 ∧ t.2.1 ≤ 800) ∧ (-1000 ≤ t.2.2.2.1 ∧ t.2.2.2.1 ≤ 1000) ∧ (0 ≤ t.2.2.2.2 ∧ t.2.2.2.2 ≤ 3)
theorem rdGo_tok {f : Nat → Int} {n : Nat} (hn : n ≤ 800) : ∀ (k i : Nat) (s r : Nat → Int) (ts : List T5), i + k = 201 → ts.length = i → RdI i s → (0 ≤ s 5 ∧ s 5 ≤ 3) → (∀ t ∈ ts, TkOk t) →
    (∀ t ∈ (rdGo f n k s r ts).2.2.2.1, TkOk t) ∧ (rdGo f n k s r ts).2.2.2.1.length ≤ 200 + (if i ≤ 200 then 0 else 1)
  | 0, i, s, r, ts, hi, hl, _, _, ht => by
    refine ⟨ht, ?_⟩
    show ts.length ≤ _
    rw [if_neg (by omega)]
    omega
  | k + 1, i, s, r, ts, hi, hl, hI, h5, ht => by
    rw [rdGo]
    have hi2 : i ≤ 200 := by omega
    rw [if_pos hi2]
    have base : (∀ t ∈ ts, TkOk t) ∧ ts.length ≤ 200 + 0 := ⟨ht, by omega⟩
    by_cases c1 : scS f n s 10 = 8
    · rw [if_pos c1]
      split <;> exact base
    · rw [if_neg c1]
      by_cases c2 : stdV (scS f n s) r = 0
      · rw [if_pos c2]; exact base
      · rw [if_neg c2]
        by_cases c3 : tooB ts.length (stdS (scS f n s) r) = true
        · rw [if_pos c3]; exact base
        · rw [if_neg c3]
          have hsc := RdI_sc (f := f) (n := n) hI hn
          have hI2 := RdI_std (n := ts.length) hsc c2 c3
          obtain ⟨nx1, nx8, nx9, nx10⟩ := Nx_std hsc.1 hsc.2.2.2.2.1 c2
          have htk := tk_le (f := f) (n := n) (i := (s 9).toNat) (by have := hI.2.2.2.2.2; omega) hn
          rw [scS_8] at nx8
          rw [scS_9] at nx9
          have h5' : 0 ≤ scS f n s 5 ∧ scS f n s 5 ≤ 3 := by rw [scS_v f n s (by decide) (by decide) (by decide)]; exact h5
          have o5 := std_5 (r := r) h5'
          have hlt : ts.length < 200 := by
            unfold tooB at c3
            simp only [decide_eq_true_eq] at c3
            omega
          have hrec := rdGo_tok (f := f) hn k (i + 1) (stdS (scS f n s) r) (stdR (scS f n s) r) (ts ++ [tokOf (stdS (scS f n s) r)]) (by omega) (by simp; omega) hI2 o5 (fun t hm => by
            rcases List.mem_append.mp hm with hm | hm
            · exact ht t hm
            · rw [List.mem_singleton.mp hm]
              have hb := hI2.2.1
              refine ⟨?_, ?_, o5⟩
              · show 0 ≤ stdS (scS f n s) r 8 ∧ stdS (scS f n s) r 8 ≤ stdS (scS f n s) r 9 ∧ stdS (scS f n s) r 9 ≤ 800
                rw [nx8, nx9]
                omega
              · show -1000 ≤ (if stdS (scS f n s) r 10 = 123 then stdS (scS f n s) r 2 - 1 else stdS (scS f n s) r 2) ∧ (if stdS (scS f n s) r 10 = 123 then stdS (scS f n s) r 2 - 1 else stdS (scS f n s) r 2) ≤ 1000
                split <;> omega)
          refine ⟨hrec.1, ?_⟩
          have h2 := hrec.2
          rw [if_pos (by omega)] at h2
          exact h2
/-! reading the memory behind the reading -/
theorem TxL.xq {E : jE} {P : jP} {x : Nat} {q : Nat → Nat} (hx : TxL E P x q) : ∀ j, j ≤ 7 → x ≠ q j := by
  obtain ⟨g0, -, ⟨a0, a1, a2, a3, a4, a5, a6, a7⟩⟩ := hx
  intro j hj
  have : j = 0 ∨ j = 1 ∨ j = 2 ∨ j = 3 ∨ j = 4 ∨ j = 5 ∨ j = 6 ∨ j = 7 := by omega
  rcases this with rfl | rfl | rfl | rfl | rfl | rfl | rfl | rfl
  · exact jne g0.2 a0.2.1 (by decide)
  · exact jne g0.2 a1.2.1 (by decide)
  · exact jne g0.2 a2.2.1 (by decide)
  · exact jne g0.2 a3.2.1 (by decide)
  · exact jne g0.2 a4.2.1 (by decide)
  · exact jne g0.2 a5.2.1 (by decide)
  · exact jne g0.2 a6.2.1 (by decide)
  · exact jne g0.2 a7.2.1 (by decide)
/-- the kind of a TEXT's row is of numbers or bytes -/
theorem TxL.kq {E : jE} {P : jP} {x : Nat} {q : Nat → Nat} (hx : TxL E P x q) : ∀ j, j ≤ 7 → eK E (q j) = 8 ∨ eK E (q j) = 9 := by
  obtain ⟨g0, -, ⟨a0, a1, a2, a3, a4, a5, a6, a7⟩⟩ := hx
  intro j hj
  have : j = 0 ∨ j = 1 ∨ j = 2 ∨ j = 3 ∨ j = 4 ∨ j = 5 ∨ j = 6 ∨ j = 7 := by omega
  rcases this with rfl | rfl | rfl | rfl | rfl | rfl | rfl | rfl
  · exact Or.inl a0.2.1
  · exact Or.inr a1.2.1
  · exact Or.inr a2.2.1
  · exact Or.inr a3.2.1
  · exact Or.inr a4.2.1
  · exact Or.inr a5.2.1
  · exact Or.inr a6.2.1
  · exact Or.inr a7.2.1
theorem tkM_1 {I : jI} {x k : Nat} {q : Nat → Nat} {ts : List T5} (hx : ∀ j, j ≤ 7 → x ≠ q j) (hk : k < ts.length) : tkM I x q ts (q 1) k = (ts.getD k (0, 0, 0, 0, 0)).1 := by
  simp [tkM, Ne.symm (hx 1 (by decide)), hk]
theorem tkM_2 {I : jI} {x k : Nat} {q : Nat → Nat} {ts : List T5} (hx : ∀ j, j ≤ 7 → x ≠ q j) (hq : TxD q) (hk : k < ts.length) : tkM I x q ts (q 2) k = (ts.getD k (0, 0, 0, 0, 0)).2.1 := by
  have n1 : q 2 ≠ q 1 := fun z => by have := hq 2 1 (by decide) (by decide) z; omega
  simp [tkM, Ne.symm (hx 2 (by decide)), n1, hk]
theorem tkM_3 {I : jI} {x k : Nat} {q : Nat → Nat} {ts : List T5} (hx : ∀ j, j ≤ 7 → x ≠ q j) (hq : TxD q) (hk : k < ts.length) : tkM I x q ts (q 3) k = (ts.getD k (0, 0, 0, 0, 0)).2.2.1 := by
  have n1 : q 3 ≠ q 1 := fun z => by have := hq 3 1 (by decide) (by decide) z; omega
  have n2 : q 3 ≠ q 2 := fun z => by have := hq 3 2 (by decide) (by decide) z; omega
  simp [tkM, Ne.symm (hx 3 (by decide)), n1, n2, hk]
theorem tkM_4 {I : jI} {x k : Nat} {q : Nat → Nat} {ts : List T5} (hx : ∀ j, j ≤ 7 → x ≠ q j) (hq : TxD q) (hk : k < ts.length) : tkM I x q ts (q 4) k = (ts.getD k (0, 0, 0, 0, 0)).2.2.2.1 := by
  have n1 : q 4 ≠ q 1 := fun z => by have := hq 4 1 (by decide) (by decide) z; omega
  have n2 : q 4 ≠ q 2 := fun z => by have := hq 4 2 (by decide) (by decide) z; omega
  have n3 : q 4 ≠ q 3 := fun z => by have := hq 4 3 (by decide) (by decide) z; omega
  simp [tkM, Ne.symm (hx 4 (by decide)), n1, n2, n3, hk]
theorem tkM_5 {I : jI} {x k : Nat} {q : Nat → Nat} {ts : List T5} (hx : ∀ j, j ≤ 7 → x ≠ q j) (hq : TxD q) (hk : k < ts.length) : tkM I x q ts (q 5) k = (ts.getD k (0, 0, 0, 0, 0)).2.2.2.2 := by
  have n1 : q 5 ≠ q 1 := fun z => by have := hq 5 1 (by decide) (by decide) z; omega
  have n2 : q 5 ≠ q 2 := fun z => by have := hq 5 2 (by decide) (by decide) z; omega
  have n3 : q 5 ≠ q 3 := fun z => by have := hq 5 3 (by decide) (by decide) z; omega
  have n4 : q 5 ≠ q 4 := fun z => by have := hq 5 4 (by decide) (by decide) z; omega
  simp [tkM, Ne.symm (hx 5 (by decide)), n1, n2, n3, n4, hk]
theorem rdRM_q {I : jI} {x rd op j k : Nat} {q : Nat → Nat} {w : RdRes} (hxq : x ≠ q j) (h1 : q j ≠ rd) (h2 : q j ≠ op) : rdRM I x q rd op w (q j) k = tkM I x q w.2.2.2.1 (q j) k := by
  unfold rdRM
  rw [rdM_x h1 h2]
  split
  · exact jput_a _ (Ne.symm hxq)
  · rfl
theorem rdRM_xk {I : jI} {x rd op k : Nat} {q : Nat → Nat} {w : RdRes} (hk : k ≠ 12) (h1 : x ≠ rd) (h2 : x ≠ op) : rdRM I x q rd op w x k = tkM I x q w.2.2.2.1 x k := by
  unfold rdRM
  rw [rdM_x h1 h2]
  split
  · exact jput_k _ hk
  · rfl
theorem getD_mem {ts : List T5} {k : Nat} (hk : k < ts.length) : ts.getD k (0, 0, 0, 0, 0) ∈ ts := by
  rw [List.getD_eq_getElem?_getD, List.getElem?_eq_getElem hk]
  exact List.getElem_mem hk
theorem rdRM_TokR {I : jI} {x rd op : Nat} {q : Nat → Nat} {w : RdRes} (hxq : ∀ j, j ≤ 7 → x ≠ q j) (hq : TxD q) (h1 : ∀ j, j ≤ 7 → q j ≠ rd) (h2 : ∀ j, j ≤ 7 → q j ≠ op) (ht : ∀ t ∈ w.2.2.2.1, TkOk t) : TokR (rdRM I x q rd op w) q w.2.2.2.1.length := by
  intro k hk
  rw [rdRM_q (hxq 1 (by decide)) (h1 1 (by decide)) (h2 1 (by decide)), rdRM_q (hxq 2 (by decide)) (h1 2 (by decide)) (h2 2 (by decide)), rdRM_q (hxq 4 (by decide)) (h1 4 (by decide)) (h2 4 (by decide)), tkM_1 hxq hk, tkM_2 hxq hq hk, tkM_4 hxq hq hk]
  obtain ⟨k1, k2, k3⟩ := ht _ (getD_mem hk)
  refine ⟨by omega, by omega, k2⟩
end JTok
