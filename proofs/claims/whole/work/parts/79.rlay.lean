section JRL
variable {E : jE} {I : jI} {P : jP} {d m t i : Nat} {a : Nat → Nat} {x : TX}
/-- the reference's OUT over a memory -/
def otM (I : jI) (m : Nat) (a : Nat → Nat) (l : List Int) : jI := fun b k => if b = m ∧ k = 20 then (l.length : Int) else if b = a 19 ∧ k < l.length then l.getD k 0 else I b k
theorem otM_20 {l : List Int} : otM I m a l m 20 = (l.length : Int) := by simp [otM]
theorem otM_f {l : List Int} {k : Nat} (hR : RfL E P m a) (h : k ≠ 20) : otM I m a l m k = I m k := by simp [otM, h, Ne.symm hR.n19]
theorem otM_x {l : List Int} {b : Nat} (h1 : b ≠ m) (h2 : b ≠ a 19) : otM I m a l b = I b := by funext k; simp [otM, h1, h2]
theorem otM_row {l : List Int} {j : Nat} (hR : RfL E P m a) (hj : j ∈ rfK) (h : j ≠ 19) : otM I m a l (a j) = I (a j) := otM_x (hR.nm hj) (hR.d hj (by decide) h)
theorem otM_rt {l : List Int} (hR : RfL E P m a) (hT : RT I a t x) : RT (otM I m a l) a t x := hT.cg (fun j h1 h2 => otM_row hR (rfK_515 j (by omega) h2) (by omega))
theorem otM_app {l : List Int} {v : Int} (h : a 19 ≠ m) : jput (jput (otM I m a l) (a 19) l.length v) m 20 ((l.length : Int) + 1) = otM I m a (l ++ [v]) := by
  funext b k
  simp only [jput, otM]
  by_cases hb : b = m
  · subst hb
    by_cases h2 : k = 20
    · subst h2; simp
    · simp [h2, Ne.symm h]
  · simp only [hb, false_and, if_false]
    by_cases hr : b = a 19
    · subst hr
      simp only [true_and]
      by_cases hk : k = l.length
      · subst hk; simp
      · by_cases hk2 : k < l.length
        · simp [hk, hk2, Nat.lt_succ_of_lt hk2, List.getD_eq_getElem?_getD, List.getElem?_append_left hk2]
        · have : ¬ k < l.length + 1 := by omega
          simp [hk, hk2, this]
    · simp [hr]
theorem otM_p {l : List Int} {k : Nat} {v : Int} (hR : RfL E P m a) (h : k ≠ 20) : jput (otM I m a l) m k v = otM (jput I m k v) m a l := by
  funext b j
  simp only [jput, otM]
  by_cases hb : b = m
  · subst hb
    by_cases hj : j = k
    · subst hj
      simp [h, Ne.symm hR.n19]
    · simp [hj]
  · simp [hb]
theorem otM_nil : jput (jput I m 20 0) m 21 (-1) = otM (jput I m 21 (-1)) m a [] := by
  funext b k
  simp only [jput, otM]
  by_cases hb : b = m
  · subst hb
    by_cases h1 : k = 21
    · simp [h1]
    · by_cases h2 : k = 20
      · simp [h2]
      · simp [h1, h2]
  · simp [hb]
theorem x_says {l : List Int} {c : Int} (hR : RfL E P m a) (hl : l.length ≤ 2000) : jC E yX7_says cX7_says 2 (some .boolean) d [jp m, ji c] (otM I m a l) P (jD (some (ji (jb (l.length ≠ 2000)))) (otM I m a (if l.length = 2000 then l else l ++ [c])) P) := by
  have n19 := hR.n19
  refine jC_intro (by decide +kernel) (by simp [jc, va_rf, Value.category]) (Nat.le_of_ble_eq_true rfl) ?_
  refine jJ_aload_n (pc := 0) dX7_says_0 rfl ?_
  refine jJ_geti (pc := 1) dX7_says_1 fX7_264 rfl hR.1 ?_
  try simp only [otM_20]
  refine jJ_sipush (pc := 4) dX7_says_4 (by decide) ?_
  refine jJ_icmp_ne (pc := 7) (tgt := 12) dX7_says_7 (by decide) (fun c7 => ?_) (fun c7 => ?_)
  · have hne : l.length ≠ 2000 := by omega
    rw [← jb_t hne, if_neg hne]
    refine jJ_aload_n (pc := 12) dX7_says_12 rfl ?_
    refine jJ_getr (pc := 13) dX7_says_13 fX7_57 rfl hR.1 hR.p19 ?_
    try simp only [otM_20]
    refine jJ_aload_n (pc := 16) dX7_says_16 rfl ?_
    refine jJ_geti (pc := 17) dX7_says_17 fX7_264 rfl hR.1 ?_
    try simp only [otM_20]
    refine jJ_iload_n (pc := 20) dX7_says_20 rfl ?_
    refine jJ_iast (pc := 21) dX7_says_21 hR.a19 ⟨by omega, by omega⟩ ?_
    try simp only [otM_20]
    refine jJ_aload_n (pc := 22) dX7_says_22 rfl ?_
    refine jJ_dup (pc := 23) dX7_says_23 rfl ?_
    refine jJ_geti (pc := 24) dX7_says_24 fX7_264 rfl hR.1 ?_
    try simp only [jput_a _ (Ne.symm n19), otM_20]
    refine jJ_iconst (pc := 27) dX7_says_27 (by decide) ?_
    refine jJ_iadd (pc := 28) dX7_says_28 ⟨by omega, by omega⟩ ?_
    refine jJ_puti (pc := 29) dX7_says_29 fX7_264w rfl ⟨rfl, rfl⟩ hR.1 ?_
    try simp only [jput_a _ (Ne.symm n19), otM_20]
    rw [Int.toNat_natCast]
    refine jJ_I (otM_app n19) ?_
    refine jJ_iconst (pc := 32) dX7_says_32 (by decide) ?_
    refine jJ_zret (pc := 33) dX7_says_33 rfl (Or.inr rfl) ?_
    exact ⟨rfl, rfl, rfl⟩
  · have he : l.length = 2000 := by omega
    refine jJ_iconst (pc := 10) dX7_says_10 (by decide) ?_
    refine jJ_zret (pc := 11) dX7_says_11 rfl (Or.inl rfl) ?_
    exact ⟨by rw [← jb_f (fun z => z he)], by rw [if_pos he], rfl⟩
/-- what is said behind what was said, if it all finds room -/
def sayQ (q : Option (List Int)) (bs : List Int) : Option (List Int) := q.bind (fun l => if l.length + bs.length ≤ 2000 then some (l ++ bs) else none)
theorem sayQ_app (q : Option (List Int)) (b c : List Int) : sayQ (sayQ q b) c = sayQ q (b ++ c) := by
  cases q with
  | none => rfl
  | some l =>
    simp only [sayQ, Option.bind_some]
    by_cases h : l.length + b.length ≤ 2000
    · rw [if_pos h]
      simp only [Option.bind_some, List.length_append]
      by_cases h2 : l.length + b.length + c.length ≤ 2000
      · rw [if_pos h2, if_pos (by omega), List.append_assoc]
      · rw [if_neg h2, if_neg (by omega)]
    · rw [if_neg h, Option.bind_none]
      rw [if_neg (by rw [List.length_append]; omega)]
theorem sayQ_nil {q : Option (List Int)} (h : ∀ l, q = some l → l.length ≤ 2000) : sayQ q [] = q := by
  cases q with
  | none => rfl
  | some l =>
    simp only [sayQ, Option.bind_some, List.length_nil, Nat.add_zero, List.append_nil]
    rw [if_pos (h l rfl)]
/-- OUT as it is said, and whether all was said -/
def StQ (B : jI) (m : Nat) (a : Nat → Nat) (q : Option (List Int)) (f : Int) (J : jI) : Prop := (∃ l, q = some l ∧ f = 1 ∧ l.length ≤ 2000 ∧ J = otM B m a l) ∨ (q = none ∧ f = 0 ∧ ∃ l, l.length ≤ 2000 ∧ J = otM B m a l)
theorem StQ.ok {B J : jI} {q : Option (List Int)} {f : Int} (h : StQ B m a q f J) : ∃ l, l.length ≤ 2000 ∧ J = otM B m a l := by
  rcases h with ⟨l, -, -, h1, h2⟩ | ⟨-, -, l, h1, h2⟩ <;> exact ⟨l, h1, h2⟩
theorem StQ.len {B J : jI} {q : Option (List Int)} {f : Int} (h : StQ B m a q f J) : ∀ l, q = some l → l.length ≤ 2000 := by
  intro l hl
  rcases h with ⟨l', h0, -, h1, -⟩ | ⟨h0, -⟩
  · rw [h0] at hl; cases hl; exact h1
  · rw [h0] at hl; cases hl
/-- one more is said, or none was told -/
theorem StQ.say {B J : jI} {q : Option (List Int)} {f : Int} (c : Int) (h : StQ B m a q f J) :
    (f = 0 ∧ q = none ∧ StQ B m a (sayQ q [c]) 0 J) ∨ (f ≠ 0 ∧ ∃ l, l.length ≤ 2000 ∧ J = otM B m a l ∧ StQ B m a (sayQ q [c]) (jb (l.length ≠ 2000)) (otM B m a (if l.length = 2000 then l else l ++ [c]))) := by
  rcases h with ⟨l, rfl, rfl, h1, rfl⟩ | ⟨rfl, rfl, l, h1, rfl⟩
  · right
    refine ⟨by decide, l, h1, rfl, ?_⟩
    by_cases q : l.length = 2000
    · rw [if_pos q, ← jb_f (fun z => z q)]
      refine Or.inr ⟨?_, rfl, l, h1, rfl⟩
      simp only [sayQ, Option.bind_some]
      rw [if_neg (by simp; omega)]
    · rw [if_neg q, ← jb_t q]
      refine Or.inl ⟨l ++ [c], ?_, rfl, by simp; omega, rfl⟩
      simp only [sayQ, Option.bind_some]
      rw [if_pos (by simp; omega)]
  · left
    exact ⟨rfl, rfl, Or.inr ⟨rfl, rfl, l, h1, rfl⟩⟩
end JRL
