section JRM
theorem runW_all {p : Int → Bool} {f : Nat → Int} : ∀ (k i j : Nat), i ≤ j → j < runW p f k i → p (f j) = true
  | 0, i, j, h1, h2 => by simp only [runW] at h2; omega
  | k + 1, i, j, h1, h2 => by
    simp only [runW] at h2
    split at h2
    · next q =>
      by_cases e : j = i
      · rw [e]; exact q
      · exact runW_all k (i + 1) j (by omega) h2
    · omega
theorem rowF_mem {f : Nat → Int} {b : Int} : ∀ (k i : Nat), b ∈ rowF f i k → ∃ j, i ≤ j ∧ j < i + k ∧ b = f j
  | 0, i, h => by simp [rowF] at h
  | k + 1, i, h => by
    simp only [rowF, List.mem_cons] at h
    rcases h with h | h
    · exact ⟨i, by omega, by omega, h⟩
    · obtain ⟨j, h1, h2, h3⟩ := rowF_mem k (i + 1) h
      exact ⟨j, by omega, by omega, h3⟩
/-- the bytes of a TOKEN are plain -/
theorem WX.asc {x : TX} {i : Nat} (h : WX x) (hi : i < (xT x).length) : ∀ b ∈ xNm x i, 0 ≤ b ∧ b ≤ 127 := by
  intro b hb
  obtain ⟨⟨j, e1, e2, e3, e8, e7, -⟩, -⟩ := h.2.2.2.2.1 i hi
  unfold xNm at hb
  obtain ⟨q, h1, h2, rfl⟩ := rowF_mem _ _ hb
  have hs : xSt x i = (tkS (xF x) (xN x) j : Int) := e1
  have he : xEn x i = (tkE (xF x) (xN x) j : Int) := e2
  have hin := tk_in e8
  have hT : ¬ xN x ≤ tkS (xF x) (xN x) j := by omega
  have hq1 : tkS (xF x) (xN x) j ≤ q := by omega
  have hq2 : q < tkE (xF x) (xN x) j := by omega
  generalize hG : tkG (xF x) (xN x) j = G at *
  rw [tkG, if_neg hT] at hG
  unfold tkE at hq2
  rw [if_neg hT] at hq2
  by_cases q1 : isLtB (xF x (tkS (xF x) (xN x) j)) = true
  · rw [if_pos q1] at hq2
    have := runW_all _ _ q hq1 hq2
    unfold isWdB at this
    rw [decide_eq_true_iff] at this
    omega
  · rw [if_neg q1] at hG hq2
    by_cases q2 : isDgB (xF x (tkS (xF x) (xN x) j)) = true
    · rw [if_pos q2] at hq2
      have := runW_all _ _ q hq1 hq2
      unfold isDgB at this
      rw [decide_eq_true_iff] at this
      omega
    · rw [if_neg q2] at hG hq2
      have eq : q = tkS (xF x) (xN x) j := by omega
      by_cases q3 : isSgB (xF x (tkS (xF x) (xN x) j)) = true
      · rw [eq]
        unfold isSgB at q3
        rw [decide_eq_true_iff] at q3
        omega
      · rw [if_neg q3] at hG
        omega
def rpart (w : List Int × Int) (b mk : Int) : List Int × Int := ((if mk = 0 ∧ 1 < w.2 + 1 then w.1 ++ [95] else w.1) ++ [if mk = 1 ∧ 1 < w.2 + 1 then rGr b else rSm b], w.2 + 1)
def rstep (mk : Int) (q : (List Int × Int) × Int) (b : Int) : (List Int × Int) × Int := if b = 95 then (q.1, 1) else if q.2 ≠ 0 ∨ (65 ≤ b ∧ b ≤ 90) then (rpart q.1 b mk, 0) else ((q.1.1 ++ [rSm b], q.1.2), 0)
def rrun (mk : Int) (q : (List Int × Int) × Int) (bs : List Int) : (List Int × Int) × Int := bs.foldl (rstep mk) q
theorem mput_in {w : List Int × Int} {b : Int} (hl : w.1.length < 32) (hb : 0 ≤ b ∧ b ≤ 127) : mput w b = (w.1 ++ [b], w.2) := by rw [mput, if_pos hl, jB_id (by omega)]
theorem rpart_eq {w : List Int × Int} {b mk : Int} (hl : w.1.length + 2 ≤ 32) (hb : 0 ≤ b ∧ b ≤ 127) (hw : 0 ≤ w.2) (hm : mk = 0 ∨ mk = 1) : rpart w b mk = spart w b mk := by
  have s1 : rSm b = smallOf b ∧ 0 ≤ smallOf b ∧ smallOf b ≤ 127 := by unfold rSm smallOf; split <;> omega
  have s2 : rGr b = greatOf (smallOf b) ∧ 0 ≤ greatOf (smallOf b) ∧ greatOf (smallOf b) ≤ 127 := by
    unfold rGr greatOf smallOf
    (repeat' split) <;> omega
  unfold rpart spart
  by_cases q : w.2 + 1 = 1
  · rw [if_pos q, if_neg (by omega), if_neg (by omega), mput_in (by show w.1.length < 32; omega) s1.2, s1.1]
  · rw [if_neg q]
    by_cases q0 : mk = 0
    · rw [if_pos q0, if_pos ⟨q0, by omega⟩, if_neg (by omega), mput_in (w := (w.1, w.2 + 1)) (by show w.1.length < 32; omega) (by decide), mput_in (by show (w.1 ++ [95]).length < 32; simp; omega) s1.2, s1.1]
    · rw [if_neg q0, if_neg (by omega), if_pos ⟨by omega, by omega⟩, mput_in (by show w.1.length < 32; omega) s2.2, s2.1]
theorem rpart_len (w : List Int × Int) (b mk : Int) : (rpart w b mk).1.length ≤ w.1.length + 2 ∧ (rpart w b mk).2 = w.2 + 1 := by
  unfold rpart
  refine ⟨?_, rfl⟩
  split <;> simp
theorem rstep_len (q : (List Int × Int) × Int) (b mk : Int) : (rstep mk q b).1.1.length ≤ q.1.1.length + 2 ∧ (q.1.2 ≤ (rstep mk q b).1.2 ∧ (rstep mk q b).1.2 ≤ q.1.2 + 1) := by
  unfold rstep
  have := rpart_len q.1 b mk
  split
  · exact ⟨by show q.1.1.length ≤ q.1.1.length + 2; omega, by show q.1.2 ≤ q.1.2; omega, by show q.1.2 ≤ q.1.2 + 1; omega⟩
  · split
    · exact ⟨this.1, by show q.1.2 ≤ (rpart q.1 b mk).2; omega, by show (rpart q.1 b mk).2 ≤ q.1.2 + 1; omega⟩
    · exact ⟨by show (q.1.1 ++ [rSm b]).length ≤ q.1.1.length + 2; simp, by show q.1.2 ≤ q.1.2; omega, by show q.1.2 ≤ q.1.2 + 1; omega⟩
theorem rrun_eq {mk : Int} (hm : mk = 0 ∨ mk = 1) : ∀ (bs : List Int) (q : (List Int × Int) × Int), (∀ b ∈ bs, 0 ≤ b ∧ b ≤ 127) → q.1.1.length + 2 * bs.length ≤ 32 → 0 ≤ q.1.2 → rrun mk q bs = mrun mk q bs
  | [], q, _, _, _ => rfl
  | b :: t, q, hb, hl, hq => by
    have hb0 := hb b List.mem_cons_self
    have e : rstep mk q b = mstep mk q b := by
      simp only [List.length_cons] at hl
      unfold rstep mstep
      by_cases q1 : b = 95
      · rw [if_pos q1, if_pos q1]
      · rw [if_neg q1, if_neg q1]
        by_cases q2 : q.2 ≠ 0 ∨ (65 ≤ b ∧ b ≤ 90)
        · rw [if_pos q2, if_pos q2, rpart_eq (by omega) hb0 hq hm]
        · rw [if_neg q2, if_neg q2, mput_in (by omega) hb0]
          have e1 : rSm b = b := by unfold rSm; rw [if_neg (by omega)]
          have e2 : q.2 = 0 := by omega
          rw [e1, e2]
    have hs := rstep_len q b mk
    show rrun mk (rstep mk q b) t = mrun mk (mstep mk q b) t
    rw [← e]
    exact rrun_eq hm t _ (fun c hc => hb c (List.mem_cons_of_mem _ hc)) (by simp only [List.length_cons] at hl; omega) (by omega)
theorem rrun_made {mk : Int} {bs : List Int} (hm : mk = 0 ∨ mk = 1) (hb : ∀ b ∈ bs, 0 ≤ b ∧ b ≤ 127) (hl : bs.length ≤ 16) : (rrun mk (([], 0), 1) bs).1 = made mk bs := by
  rw [rrun_eq hm bs _ hb (by simp; omega) (by simp)]
  rfl
variable {E : jE} {I : jI} {P : jP} {d m t i : Nat} {a : Nat → Nat} {x : TX}
/-- the reference's memory: what was made, and how many PARTS -/
def mdM (I : jI) (m : Nat) (a : Nat → Nat) (w : List Int × Int) : jI := fun b k => if b = m ∧ k = 34 then (w.1.length : Int) else if b = m ∧ k = 35 then w.2 else if b = a 32 ∧ k < w.1.length then w.1.getD k 0 else I b k
theorem mdM_34 {w : List Int × Int} : mdM I m a w m 34 = (w.1.length : Int) := by simp [mdM]
theorem mdM_35 {w : List Int × Int} : mdM I m a w m 35 = w.2 := by simp [mdM]
theorem mdM_x {w : List Int × Int} {b : Nat} (h1 : b ≠ m) (h2 : b ≠ a 32) : mdM I m a w b = I b := by funext k; simp [mdM, h1, h2]
theorem mdM_0 : jput (jput I m 34 0) m 35 0 = mdM I m a ([], 0) := by
  funext b k
  simp only [jput, mdM]
  by_cases hb : b = m
  · subst hb
    by_cases h1 : k = 35
    · simp [h1]
    · by_cases h2 : k = 34
      · simp [h2]
      · simp [h1, h2]
  · simp [hb]
theorem mdM_p35 {w : List Int × Int} {v : Int} : jput (mdM I m a w) m 35 v = mdM I m a (w.1, v) := by
  funext b k
  simp only [jput, mdM]
  by_cases hb : b = m
  · subst hb
    by_cases h1 : k = 35
    · subst h1; simp
    · by_cases h2 : k = 34
      · subst h2; simp
      · simp [h1, h2]
  · simp [hb]
theorem mdM_app {w : List Int × Int} {v : Int} (h : a 32 ≠ m) : jput (jput (mdM I m a w) (a 32) w.1.length v) m 34 ((w.1.length : Int) + 1) = mdM I m a (w.1 ++ [v], w.2) := by
  funext b k
  simp only [jput, mdM]
  by_cases hb : b = m
  · subst hb
    by_cases h2 : k = 34
    · subst h2; simp
    · simp [h2, Ne.symm h]
  · simp only [hb, false_and, if_false]
    by_cases hr : b = a 32
    · subst hr
      simp only [true_and]
      by_cases hk : k = w.1.length
      · subst hk; simp
      · by_cases hk2 : k < w.1.length
        · simp [hk, hk2, Nat.lt_succ_of_lt hk2, List.getD_eq_getElem?_getD, List.getElem?_append_left hk2]
        · have : ¬ k < w.1.length + 1 := by omega
          simp [hk, hk2, this]
    · simp [hr]
theorem makes_loop {mk : Int} {n : Nat} (hR : RfL E P m a) (hT : RT I a t x) (hW : WX x) (ht : t < 12) (hi : i < (xT x).length) (hn : n = (xEn x i - xSt x i).toNat) (hn2 : n ≤ 16) (hm : mk = 0 ∨ mk = 1) (hd : 1 ≤ d) :
    ∀ (r k : Nat) (w : (List Int × Int) × Int) (z : Option jV), k + r = n → w.1.1.length ≤ 2 * k → 0 ≤ w.1.2 → w.1.2 ≤ k → (w.2 = 0 ∨ w.2 = 1) → jJ E yX7_makes.cls cX7_makes 7 none (jRm d) (jZ E (jD none (mdM I m a (rrun mk w (rowF (xF x) ((xSt x i).toNat + k) r)).1) P)) 0 0 16 [some (jp m), some (ji (t : Int)), some (ji (i : Int)), some (ji mk), some (ji w.2), some (ji (k : Int)), z] [] (mdM I m a w.1) P := by
  have l1 := hW.2.2.2.1
  have t1 := (hW.tk hi).1
  have n32 := hR.n32
  have e12 : ∀ w, mdM I m a w (a 12) (201 * (t : Int) + (i : Int)).toNat = (n : Int) := fun w => by rw [mdM_x hR.n12 (hR.d (by decide) (by decide) (by decide)), hT.g12n hW hi, hn]
  have e11 : ∀ w, mdM I m a w (a 11) (201 * (t : Int) + (i : Int)).toNat = xSt x i := fun w => by rw [mdM_x hR.n11 (hR.d (by decide) (by decide) (by decide)), hT.g11n hi]
  intro r
  induction r with
  | zero =>
    intro k w z hk h1 h2 h3 h4
    refine jJ_iload (pc := 16) dX7_makes_16 rfl ?_
    refine jJ_aload_n (pc := 18) dX7_makes_18 rfl ?_
    refine jJ_getr (pc := 19) dX7_makes_19 fX7_39 rfl hR.1 hR.p12 ?_
    try simp only [e12]
    refine jJ_sipush (pc := 22) dX7_makes_22 (by decide) ?_
    refine jJ_iload_n (pc := 25) dX7_makes_25 rfl ?_
    refine jJ_imul (pc := 26) dX7_makes_26 ⟨by omega, by omega⟩ ?_
    refine jJ_iload_n (pc := 27) dX7_makes_27 rfl ?_
    refine jJ_iadd (pc := 28) dX7_makes_28 ⟨by omega, by omega⟩ ?_
    refine jJ_iald (pc := 29) dX7_makes_29 hR.a12 ⟨by omega, by omega⟩ ?_
    try simp only [e12]
    refine jJ_icmp_ge (pc := 30) (tgt := 207) dX7_makes_30 (by decide) (fun c30 => ?_) (fun c30 => ?_)
    · refine jJ_vret (pc := 207) dX7_makes_207 rfl ?_
      exact ⟨rfl, rfl, rfl⟩
    · exfalso
      omega
  | succ r ih =>
    intro k w z hk h1 h2 h3 h4
    have e6 : ∀ w, mdM I m a w (a 6) (800 * (t : Int) + xSt x i + (k : Int)).toNat = xF x ((xSt x i).toNat + k) := fun w => by rw [mdM_x hR.n6 (hR.d (by decide) (by decide) (by decide)), hT.byn hW hi (by omega)]
    have hs := rstep_len w (xF x ((xSt x i).toNat + k)) mk
    have nx : ∀ fl : Int, (fl = 0 ∨ fl = 1) → rstep mk w (xF x ((xSt x i).toNat + k)) = ((rstep mk w (xF x ((xSt x i).toNat + k))).1, fl) → jJ E yX7_makes.cls cX7_makes 7 none (jRm d) (jZ E (jD none (mdM I m a (rrun mk w (rowF (xF x) ((xSt x i).toNat + k) (r + 1))).1) P)) 0 0 201 [some (jp m), some (ji (t : Int)), some (ji (i : Int)), some (ji mk), some (ji fl), some (ji (k : Int)), some (ji (xF x ((xSt x i).toNat + k)))] [] (mdM I m a (rstep mk w (xF x ((xSt x i).toNat + k))).1) P := by
      intro fl hfl he
      refine jJ_iinc (pc := 201) (ls' := [_, _, _, _, _, _, _]) dX7_makes_201 rfl ⟨by omega, by omega⟩ rfl ?_
      refine jJ_goto (pc := 204) (tgt := 16) dX7_makes_204 (by decide) ?_
      have k2 := ih (k + 1) (rstep mk w (xF x ((xSt x i).toNat + k))) (some (ji (xF x ((xSt x i).toNat + k)))) (by omega) (by omega) (by omega) (by omega) (by rw [he]; exact hfl)
      rw [show (xSt x i).toNat + (k + 1) = (xSt x i).toNat + k + 1 by omega] at k2
      rw [show (rstep mk w (xF x ((xSt x i).toNat + k))).2 = fl by rw [he]] at k2
      exact k2
    -- the last byte of a step is put
    have put : ∀ (l : List Int) (p v : Int), l.length < 40 → rstep mk w (xF x ((xSt x i).toNat + k)) = ((l ++ [v], p), 0) → jJ E yX7_makes.cls cX7_makes 7 none (jRm d) (jZ E (jD none (mdM I m a (rrun mk w (rowF (xF x) ((xSt x i).toNat + k) (r + 1))).1) P)) 0 0 188 [some (jp m), some (ji (t : Int)), some (ji (i : Int)), some (ji mk), some (ji w.2), some (ji (k : Int)), some (ji (xF x ((xSt x i).toNat + k)))] [] (jput (mdM I m a (l, p)) (a 32) l.length v) P := by
      intro l p v hl he
      refine jJ_aload_n (pc := 188) dX7_makes_188 rfl ?_
      refine jJ_dup (pc := 189) dX7_makes_189 rfl ?_
      refine jJ_geti (pc := 190) dX7_makes_190 fX7_273 rfl hR.1 ?_
      try simp only [jput_a _ (Ne.symm n32), mdM_34]
      refine jJ_iconst (pc := 193) dX7_makes_193 (by decide) ?_
      refine jJ_iadd (pc := 194) dX7_makes_194 ⟨by omega, by omega⟩ ?_
      refine jJ_puti (pc := 195) dX7_makes_195 fX7_273w rfl ⟨rfl, rfl⟩ hR.1 ?_
      try simp only [jput_a _ (Ne.symm n32), mdM_34]
      refine jJ_iconst (pc := 198) dX7_makes_198 (by decide) ?_
      refine jJ_istore (pc := 199) (ls' := [_, _, _, _, _, _, _]) dX7_makes_199 (Nat.le_of_ble_eq_true rfl) rfl ?_
      refine jJ_I (show _ = mdM I m a (rstep mk w (xF x ((xSt x i).toNat + k))).1 by rw [he]; exact mdM_app n32) ?_
      exact nx 0 (Or.inl rfl) (by rw [he])
    refine jJ_iload (pc := 16) dX7_makes_16 rfl ?_
    refine jJ_aload_n (pc := 18) dX7_makes_18 rfl ?_
    refine jJ_getr (pc := 19) dX7_makes_19 fX7_39 rfl hR.1 hR.p12 ?_
    try simp only [e12]
    refine jJ_sipush (pc := 22) dX7_makes_22 (by decide) ?_
    refine jJ_iload_n (pc := 25) dX7_makes_25 rfl ?_
    refine jJ_imul (pc := 26) dX7_makes_26 ⟨by omega, by omega⟩ ?_
    refine jJ_iload_n (pc := 27) dX7_makes_27 rfl ?_
    refine jJ_iadd (pc := 28) dX7_makes_28 ⟨by omega, by omega⟩ ?_
    refine jJ_iald (pc := 29) dX7_makes_29 hR.a12 ⟨by omega, by omega⟩ ?_
    try simp only [e12]
    refine jJ_icmp_ge (pc := 30) (tgt := 207) dX7_makes_30 (by decide) (fun c30 => ?_) (fun c30 => ?_)
    · exfalso
      omega
    · refine jJ_aload_n (pc := 33) dX7_makes_33 rfl ?_
      refine jJ_getr (pc := 34) dX7_makes_34 fX7_21 rfl hR.1 hR.p6 ?_
      try simp only [e11, e6]
      refine jJ_sipush (pc := 37) dX7_makes_37 (by decide) ?_
      refine jJ_iload_n (pc := 40) dX7_makes_40 rfl ?_
      refine jJ_imul (pc := 41) dX7_makes_41 ⟨by omega, by omega⟩ ?_
      refine jJ_aload_n (pc := 42) dX7_makes_42 rfl ?_
      refine jJ_getr (pc := 43) dX7_makes_43 fX7_36 rfl hR.1 hR.p11 ?_
      try simp only [e11, e6]
      refine jJ_sipush (pc := 46) dX7_makes_46 (by decide) ?_
      refine jJ_iload_n (pc := 49) dX7_makes_49 rfl ?_
      refine jJ_imul (pc := 50) dX7_makes_50 ⟨by omega, by omega⟩ ?_
      refine jJ_iload_n (pc := 51) dX7_makes_51 rfl ?_
      refine jJ_iadd (pc := 52) dX7_makes_52 ⟨by omega, by omega⟩ ?_
      refine jJ_iald (pc := 53) dX7_makes_53 hR.a11 ⟨by omega, by omega⟩ ?_
      try simp only [e11, e6]
      refine jJ_iadd (pc := 54) dX7_makes_54 ⟨by omega, by omega⟩ ?_
      refine jJ_iload (pc := 55) dX7_makes_55 rfl ?_
      refine jJ_iadd (pc := 57) dX7_makes_57 ⟨by omega, by omega⟩ ?_
      refine jJ_iald (pc := 58) dX7_makes_58 hR.a6 ⟨by omega, by omega⟩ ?_
      try simp only [e11, e6]
      refine jJ_istore (pc := 59) (ls' := [_, _, _, _, _, _, _]) dX7_makes_59 (Nat.le_of_ble_eq_true rfl) rfl ?_
      generalize hb : xF x ((xSt x i).toNat + k) = b at *
      have great : (w.2 ≠ 0 ∨ (65 ≤ b ∧ b ≤ 90)) → b ≠ 95 → jJ E yX7_makes.cls cX7_makes 7 none (jRm d) (jZ E (jD none (mdM I m a (rrun mk w (rowF (xF x) ((xSt x i).toNat + k) (r + 1))).1) P)) 0 0 93 [some (jp m), some (ji (t : Int)), some (ji (i : Int)), some (ji mk), some (ji w.2), some (ji (k : Int)), some (ji b)] [] (mdM I m a w.1) P := by
        intro hc h95
        have he : rstep mk w b = (rpart w.1 b mk, 0) := by rw [rstep, if_neg h95, if_pos hc]
        refine jJ_aload_n (pc := 93) dX7_makes_93 rfl ?_
        refine jJ_dup (pc := 94) dX7_makes_94 rfl ?_
        refine jJ_geti (pc := 95) dX7_makes_95 fX7_276 rfl hR.1 ?_
        try simp only [mdM_35, mdM_p35]
        refine jJ_iconst (pc := 98) dX7_makes_98 (by decide) ?_
        refine jJ_iadd (pc := 99) dX7_makes_99 ⟨by omega, by omega⟩ ?_
        refine jJ_puti (pc := 100) dX7_makes_100 fX7_276w rfl ⟨rfl, rfl⟩ hR.1 ?_
        try simp only [mdM_35, mdM_p35]
        have k136 : ∀ l : List Int, l.length < 40 → l = (if mk = 0 ∧ 1 < w.1.2 + 1 then w.1.1 ++ [95] else w.1.1) → jJ E yX7_makes.cls cX7_makes 7 none (jRm d) (jZ E (jD none (mdM I m a (rrun mk w (rowF (xF x) ((xSt x i).toNat + k) (r + 1))).1) P)) 0 0 136 [some (jp m), some (ji (t : Int)), some (ji (i : Int)), some (ji mk), some (ji w.2), some (ji (k : Int)), some (ji b)] [] (mdM I m a (l, w.1.2 + 1)) P := by
          intro l hl hl2
          refine jJ_aload_n (pc := 136) dX7_makes_136 rfl ?_
          refine jJ_getr (pc := 137) dX7_makes_137 fX7_72 rfl hR.1 hR.p32 ?_
          try simp only [mdM_34]
          refine jJ_aload_n (pc := 140) dX7_makes_140 rfl ?_
          refine jJ_geti (pc := 141) dX7_makes_141 fX7_273 rfl hR.1 ?_
          try simp only [mdM_34]
          refine jJ_iload_n (pc := 144) dX7_makes_144 rfl ?_
          refine jJ_iconst (pc := 145) dX7_makes_145 (by decide) ?_
          refine jJ_icmp_ne (pc := 146) (tgt := 165) dX7_makes_146 (by decide) (fun c146 => ?_) (fun c146 => ?_)
          · refine jJ_iload (pc := 165) dX7_makes_165 rfl ?_
            refine jJ_callSd (pc := 167) (as := [_]) dX7_makes_167 mX7_282 (Nat.le_of_ble_eq_true rfl) (jRm_ok (by omega) (by decide)) (r_small (d := d - 1)) ?_
            refine jJ_iast (pc := 170) dX7_makes_170 hR.a32 ⟨by omega, by omega⟩ ?_
            refine jJ_goto (pc := 171) (tgt := 188) dX7_makes_171 (by decide) ?_
            rw [Int.toNat_natCast]
            exact put l (w.1.2 + 1) (rSm b) hl (by rw [he, rpart, ← hl2, if_neg (fun z => c146 z.1)])
          · refine jJ_aload_n (pc := 149) dX7_makes_149 rfl ?_
            refine jJ_geti (pc := 150) dX7_makes_150 fX7_276 rfl hR.1 ?_
            try simp only [mdM_35]
            refine jJ_iconst (pc := 153) dX7_makes_153 (by decide) ?_
            refine jJ_icmp_le (pc := 154) (tgt := 165) dX7_makes_154 (by decide) (fun c154 => ?_) (fun c154 => ?_)
            · refine jJ_iload (pc := 165) dX7_makes_165 rfl ?_
              refine jJ_callSd (pc := 167) (as := [_]) dX7_makes_167 mX7_282 (Nat.le_of_ble_eq_true rfl) (jRm_ok (by omega) (by decide)) (r_small (d := d - 1)) ?_
              refine jJ_iast (pc := 170) dX7_makes_170 hR.a32 ⟨by omega, by omega⟩ ?_
              refine jJ_goto (pc := 171) (tgt := 188) dX7_makes_171 (by decide) ?_
              rw [Int.toNat_natCast]
              exact put l (w.1.2 + 1) (rSm b) hl (by rw [he, rpart, ← hl2, if_neg (by omega)])
            · refine jJ_iload (pc := 157) dX7_makes_157 rfl ?_
              refine jJ_callSd (pc := 159) (as := [_]) dX7_makes_159 mX7_279 (Nat.le_of_ble_eq_true rfl) (jRm_ok (by omega) (by decide)) (r_great (d := d - 1)) ?_
              refine jJ_goto (pc := 162) (tgt := 170) dX7_makes_162 (by decide) ?_
              refine jJ_iast (pc := 170) dX7_makes_170 hR.a32 ⟨by omega, by omega⟩ ?_
              refine jJ_goto (pc := 171) (tgt := 188) dX7_makes_171 (by decide) ?_
              rw [Int.toNat_natCast]
              exact put l (w.1.2 + 1) (rGr b) hl (by rw [he, rpart, ← hl2, if_pos (by omega)])
        refine jJ_iload_n (pc := 103) dX7_makes_103 rfl ?_
        refine jJ_if_ne (pc := 104) (tgt := 136) dX7_makes_104 (by decide) (fun c104 => ?_) (fun c104 => ?_)
        · exact k136 w.1.1 (by omega) (by rw [if_neg (by omega)])
        · refine jJ_aload_n (pc := 107) dX7_makes_107 rfl ?_
          refine jJ_geti (pc := 108) dX7_makes_108 fX7_276 rfl hR.1 ?_
          try simp only [mdM_35]
          refine jJ_iconst (pc := 111) dX7_makes_111 (by decide) ?_
          refine jJ_icmp_le (pc := 112) (tgt := 136) dX7_makes_112 (by decide) (fun c112 => ?_) (fun c112 => ?_)
          · exact k136 w.1.1 (by omega) (by rw [if_neg (by omega)])
          · refine jJ_aload_n (pc := 115) dX7_makes_115 rfl ?_
            refine jJ_getr (pc := 116) dX7_makes_116 fX7_72 rfl hR.1 hR.p32 ?_
            try simp only [mdM_34]
            refine jJ_aload_n (pc := 119) dX7_makes_119 rfl ?_
            refine jJ_geti (pc := 120) dX7_makes_120 fX7_273 rfl hR.1 ?_
            try simp only [mdM_34]
            refine jJ_bipush (pc := 123) dX7_makes_123 (by decide) ?_
            refine jJ_iast (pc := 125) dX7_makes_125 hR.a32 ⟨by omega, by omega⟩ ?_
            try simp only [mdM_34]
            refine jJ_aload_n (pc := 126) dX7_makes_126 rfl ?_
            refine jJ_dup (pc := 127) dX7_makes_127 rfl ?_
            refine jJ_geti (pc := 128) dX7_makes_128 fX7_273 rfl hR.1 ?_
            try simp only [jput_a _ (Ne.symm n32), mdM_34]
            refine jJ_iconst (pc := 131) dX7_makes_131 (by decide) ?_
            refine jJ_iadd (pc := 132) dX7_makes_132 ⟨by omega, by omega⟩ ?_
            refine jJ_puti (pc := 133) dX7_makes_133 fX7_273w rfl ⟨rfl, rfl⟩ hR.1 ?_
            try simp only [jput_a _ (Ne.symm n32), mdM_34]
            rw [Int.toNat_natCast]
            refine jJ_I (show _ = mdM I m a (w.1.1 ++ [95], w.1.2 + 1) from mdM_app n32) ?_
            exact k136 (w.1.1 ++ [95]) (by simp; omega) (by rw [if_pos (by omega)])
      refine jJ_iload (pc := 61) dX7_makes_61 rfl ?_
      refine jJ_bipush (pc := 63) dX7_makes_63 (by decide) ?_
      refine jJ_icmp_ne (pc := 65) (tgt := 74) dX7_makes_65 (by decide) (fun c65 => ?_) (fun c65 => ?_)
      · refine jJ_iload (pc := 74) dX7_makes_74 rfl ?_
        refine jJ_if_ne (pc := 76) (tgt := 93) dX7_makes_76 (by decide) (fun c76 => ?_) (fun c76 => ?_)
        · exact great (Or.inl c76) c65
        · have small : ¬ (65 ≤ b ∧ b ≤ 90) → jJ E yX7_makes.cls cX7_makes 7 none (jRm d) (jZ E (jD none (mdM I m a (rrun mk w (rowF (xF x) ((xSt x i).toNat + k) (r + 1))).1) P)) 0 0 174 [some (jp m), some (ji (t : Int)), some (ji (i : Int)), some (ji mk), some (ji w.2), some (ji (k : Int)), some (ji b)] [] (mdM I m a w.1) P := by
            intro hc
            refine jJ_aload_n (pc := 174) dX7_makes_174 rfl ?_
            refine jJ_getr (pc := 175) dX7_makes_175 fX7_72 rfl hR.1 hR.p32 ?_
            try simp only [mdM_34]
            refine jJ_aload_n (pc := 178) dX7_makes_178 rfl ?_
            refine jJ_geti (pc := 179) dX7_makes_179 fX7_273 rfl hR.1 ?_
            try simp only [mdM_34]
            refine jJ_iload (pc := 182) dX7_makes_182 rfl ?_
            refine jJ_callSd (pc := 184) (as := [_]) dX7_makes_184 mX7_282 (Nat.le_of_ble_eq_true rfl) (jRm_ok (by omega) (by decide)) (r_small (d := d - 1)) ?_
            refine jJ_iast (pc := 187) dX7_makes_187 hR.a32 ⟨by omega, by omega⟩ ?_
            rw [Int.toNat_natCast]
            exact put w.1.1 w.1.2 (rSm b) (by omega) (by rw [rstep, if_neg c65, if_neg (by omega)])
          refine jJ_iload (pc := 79) dX7_makes_79 rfl ?_
          refine jJ_bipush (pc := 81) dX7_makes_81 (by decide) ?_
          refine jJ_icmp_lt (pc := 83) (tgt := 174) dX7_makes_83 (by decide) (fun c83 => ?_) (fun c83 => ?_)
          · exact small (by omega)
          · refine jJ_iload (pc := 86) dX7_makes_86 rfl ?_
            refine jJ_bipush (pc := 88) dX7_makes_88 (by decide) ?_
            refine jJ_icmp_gt (pc := 90) (tgt := 174) dX7_makes_90 (by decide) (fun c90 => ?_) (fun c90 => ?_)
            · exact small (by omega)
            · exact great (Or.inr (by omega)) c65
      · refine jJ_iconst (pc := 68) dX7_makes_68 (by decide) ?_
        refine jJ_istore (pc := 69) (ls' := [_, _, _, _, _, _, _]) dX7_makes_69 (Nat.le_of_ble_eq_true rfl) rfl ?_
        refine jJ_goto (pc := 71) (tgt := 201) dX7_makes_71 (by decide) ?_
        have he : rstep mk w b = (w.1, 1) := by rw [rstep, if_pos c65]
        have k2 := nx 1 (Or.inr rfl) (by rw [he])
        rw [show (rstep mk w b).1 = w.1 by rw [he]] at k2
        exact k2
theorem x_makes {mk : Int} (hR : RfL E P m a) (hT : RT I a t x) (hW : WX x) (ht : t < 12) (hi : i < (xT x).length) (h1 : xSg x i = 1) (hm : mk = 0 ∨ mk = 1) (hd : 1 ≤ d) :
    jC E yX7_makes cX7_makes 7 none d [jp m, ji (t : Int), ji (i : Int), ji mk] I P (jD none (mdM I m a (made mk (xNm x i))) P) := by
  have tk := hW.tk hi
  have t16 := tk.2.2.1 h1
  have hl : (xNm x i).length = (xEn x i - xSt x i).toNat := by unfold xNm; exact rowF_len _ _
  refine jC_intro (by decide +kernel) (by simp [jc, va_rf, Value.category]) (Nat.le_of_ble_eq_true rfl) ?_
  refine jJ_aload_n (pc := 0) dX7_makes_0 rfl ?_
  refine jJ_iconst (pc := 1) dX7_makes_1 (by decide) ?_
  refine jJ_puti (pc := 2) dX7_makes_2 fX7_273w rfl ⟨rfl, rfl⟩ hR.1 ?_
  refine jJ_aload_n (pc := 5) dX7_makes_5 rfl ?_
  refine jJ_iconst (pc := 6) dX7_makes_6 (by decide) ?_
  refine jJ_puti (pc := 7) dX7_makes_7 fX7_276w rfl ⟨rfl, rfl⟩ hR.1 ?_
  refine jJ_iconst (pc := 10) dX7_makes_10 (by decide) ?_
  refine jJ_istore (pc := 11) (ls' := [_, _, _, _, _, _, _]) dX7_makes_11 (Nat.le_of_ble_eq_true rfl) rfl ?_
  refine jJ_iconst (pc := 13) dX7_makes_13 (by decide) ?_
  refine jJ_istore (pc := 14) (ls' := [_, _, _, _, _, _, _]) dX7_makes_14 (Nat.le_of_ble_eq_true rfl) rfl ?_
  rw [mdM_0 (a := a)]
  have k := makes_loop (d := d) (P := P) (mk := mk) hR hT hW ht hi rfl (by omega) hm hd (xEn x i - xSt x i).toNat 0 (([], 0), 1) none (by omega) (by simp) (by simp) (by simp) (Or.inr rfl)
  rw [← rrun_made hm (hW.asc hi) (by omega)]
  exact k
end JRM
