section JWF
variable {f : Nat → Int} {n : Nat} {s r u : Nat → Int} {ts : List T5}
/-- how many BLOCKS are among the first k that stand open -/
def blk (r : Nat → Int) : Nat → Int
  | 0 => 0
  | k + 1 => blk r k + (if 2 ≤ r k then 1 else 0)
theorem blk_r (r : Nat → Int) : ∀ k, 0 ≤ blk r k ∧ blk r k ≤ k
  | 0 => by simp [blk]
  | k + 1 => by
    have := blk_r r k
    simp only [blk]
    split <;> omega
theorem blk_cg {r r' : Nat → Int} : ∀ k, (∀ j, j < k → r' j = r j) → blk r' k = blk r k
  | 0, _ => rfl
  | k + 1, h => by simp only [blk]; rw [blk_cg k (fun j hj => h j (by omega)), h k (by omega)]
def tpB (s r : Nat → Int) : Prop := s 1 = 0 ∨ 2 ≤ r (s 1 - 1).toNat
/-- what stands open, and what may come next -/
def AI (s r : Nat → Int) : Prop := (0 ≤ s 1 ∧ s 1 ≤ 6) ∧ (∀ j : Nat, (j : Int) < s 1 → 0 ≤ r j ∧ r j ≤ 4 ∧ (1 ≤ r j → j = 0 ∨ 2 ≤ r (j - 1))) ∧ (s 4 ≠ 5 → s 4 ≠ 6 → s 4 ≠ 7 → tpB s r) ∧ (s 4 = 5 → 0 < s 1 ∧ r (s 1 - 1).toNat = 1) ∧ s 2 = blk r (s 1).toNat ∧ (0 ≤ s 4 ∧ s 4 ≤ 9)
theorem tpB_in (h : tpB s r) (h1 : 0 ≤ s 1 ∧ s 1 ≤ 6) : rInner s r ≠ 0 ∧ rInner s r ≠ 1 := by
  unfold rInner
  rcases h with h | h
  · rw [if_neg (by omega)]; decide
  · split <;> omega
theorem in_tpB (h0 : rInner s r ≠ 0) (h1 : rInner s r ≠ 1) (hA : AI s r) : tpB s r := by
  unfold tpB
  by_cases q : s 1 = 0
  · exact Or.inl q
  · right
    rw [rInner_top (by have := hA.1; omega)] at h0 h1
    have := hA.2.1 (s 1 - 1).toNat (by have := hA.1; omega)
    omega
theorem AI_su {v : Int} (hA : AI s r) (hv : 0 ≤ v ∧ v ≤ 9 ∧ v ≠ 5) (ht : v ≠ 6 → v ≠ 7 → tpB s r) : AI (su s 4 v) r := by
  obtain ⟨a1, a2, a3, a4, a5, a6⟩ := hA
  exact ⟨a1, a2, fun _ h6 h7 => ht h6 h7, fun z => absurd z hv.2.2, a5, ⟨hv.1, hv.2.1⟩⟩
theorem AI_push {v w : Int} (hA : AI s r) (h6 : s 1 < 6) (hw : (w = 0 ∧ v = 6) ∨ (w = 1 ∧ v = 5 ∧ tpB s r)) : AI (su (su s 4 v) 1 (s 1 + 1)) (su r (s 1).toNat w) := by
  obtain ⟨a1, a2, a3, a4, a5, a6⟩ := hA
  have e4 : su (su s 4 v) 1 (s 1 + 1) 4 = v := rfl
  have e1 : su (su s 4 v) 1 (s 1 + 1) 1 = s 1 + 1 := rfl
  have e2 : su (su s 4 v) 1 (s 1 + 1) 2 = s 2 := rfl
  have er : ∀ j, su r (s 1).toNat w j = if j = (s 1).toNat then w else r j := fun j => rfl
  unfold AI
  rw [e1, e2, e4]
  refine ⟨by omega, fun j hj => ?_, fun h5 h6' h7 => by omega, fun z => ?_, ?_, by omega⟩
  · rw [er, er]
    by_cases q : j = (s 1).toNat
    · rw [if_pos q]
      refine ⟨by omega, by omega, fun z => ?_⟩
      rcases hw with ⟨w0, _⟩ | ⟨w1, _, wt⟩
      · omega
      · by_cases z0 : j = 0
        · exact Or.inl z0
        · right
          rw [if_neg (by omega), show j - 1 = (s 1 - 1).toNat by omega]
          rcases wt with wt | wt
          · omega
          · exact wt
    · rw [if_neg q]
      have := a2 j (by omega)
      refine ⟨this.1, this.2.1, fun z => ?_⟩
      rcases this.2.2 z with z | z
      · exact Or.inl z
      · right
        rw [if_neg (by omega)]
        exact z
  · refine ⟨by omega, ?_⟩
    rw [er, if_pos (by omega)]
    omega
  · rw [show (s 1 + 1).toNat = (s 1).toNat + 1 by omega]
    simp only [blk]
    rw [blk_cg (r := r) (s 1).toNat (fun j hj => by rw [er, if_neg (by omega)]), er, if_pos rfl, if_neg (by omega), a5]
    omega
theorem AI_block {b : Int} (hA : AI s r) (h6 : s 1 < 6) (hb : b = 2 ∨ b = 3 ∨ b = 4) (ht : tpB s r) : AI (su (su (su s 4 0) 2 (s 2 + 1)) 1 (s 1 + 1)) (su r (s 1).toNat b) := by
  obtain ⟨a1, a2, a3, a4, a5, a6⟩ := hA
  have e4 : su (su (su s 4 0) 2 (s 2 + 1)) 1 (s 1 + 1) 4 = 0 := rfl
  have e1 : su (su (su s 4 0) 2 (s 2 + 1)) 1 (s 1 + 1) 1 = s 1 + 1 := rfl
  have e2 : su (su (su s 4 0) 2 (s 2 + 1)) 1 (s 1 + 1) 2 = s 2 + 1 := rfl
  have er : ∀ j, su r (s 1).toNat b j = if j = (s 1).toNat then b else r j := fun j => rfl
  unfold AI tpB
  rw [e1, e2, e4]
  refine ⟨by omega, fun j hj => ?_, fun h5 h6' h7 => ?_, fun z => by omega, ?_, by omega⟩
  · rw [er, er]
    by_cases q : j = (s 1).toNat
    · rw [if_pos q]
      refine ⟨by omega, by omega, fun z => ?_⟩
      by_cases z0 : j = 0
      · exact Or.inl z0
      · right
        rw [if_neg (by omega), show j - 1 = (s 1 - 1).toNat by omega]
        rcases ht with wt | wt
        · omega
        · exact wt
    · rw [if_neg q]
      have := a2 j (by omega)
      refine ⟨this.1, this.2.1, fun z => ?_⟩
      rcases this.2.2 z with z | z
      · exact Or.inl z
      · right
        rw [if_neg (by omega)]
        exact z
  · right
    rw [er, if_pos (by omega)]
    omega
  · rw [show (s 1 + 1).toNat = (s 1).toNat + 1 by omega]
    simp only [blk]
    rw [blk_cg (r := r) (s 1).toNat (fun j hj => by rw [er, if_neg (by omega)]), er, if_pos rfl, if_pos (by omega), a5]
theorem AI_endBr (hA : AI s r) (hi : rInner s r = 0 ∨ rInner s r = 1) : AI (endBrS s r) r := by
  have hp := rInner_pos (s := s) (r := r) (by omega)
  have ht := rInner_top (r := r) hp
  obtain ⟨a1, a2, a3, a4, a5, a6⟩ := hA
  have e4 : endBrS s r 4 = if rInner s r = 1 then 8 else 7 := rfl
  have e1 : endBrS s r 1 = s 1 - 1 := rfl
  have e2 : endBrS s r 2 = s 2 := rfl
  unfold AI tpB
  rw [e1, e2, e4]
  refine ⟨by omega, fun j hj => a2 j (by omega), fun h5 h6' h7 => ?_, fun z => ?_, ?_, ?_⟩
  · split at h7
    · have := (a2 (s 1 - 1).toNat (by omega)).2.2 (by omega)
      rcases this with z | z
      · left; omega
      · right; rw [show (s 1 - 1 - 1).toNat = (s 1 - 1).toNat - 1 by omega]; exact z
    · exact absurd rfl h7
  · split at z <;> omega
  · rw [a5, show (s 1).toNat = (s 1 - 1).toNat + 1 by omega]
    simp only [blk]
    rw [if_neg (by omega)]
    omega
  · split <;> decide
theorem AI_endBl (hA : AI s r) (hi : rInner s r ≠ -1) (ht : tpB s r) : AI (endBlS s r) r := by
  have hp := rInner_pos (s := s) (r := r) hi
  have ht2 : 2 ≤ r (s 1 - 1).toNat := by rcases ht with z | z; omega; exact z
  obtain ⟨a1, a2, a3, a4, a5, a6⟩ := hA
  unfold endBlS
  rw [if_neg hi]
  generalize (if rInner s r = 4 then (3 : Int) else 2) = x
  have e4 : su (su (su (su s 1 (s 1 - 1)) 2 (s 2 - 1)) 5 x) 4 (if rInner s r = 2 then 1 else 0) 4 = if rInner s r = 2 then 1 else 0 := rfl
  have e1 : su (su (su (su s 1 (s 1 - 1)) 2 (s 2 - 1)) 5 x) 4 (if rInner s r = 2 then 1 else 0) 1 = s 1 - 1 := rfl
  have e2 : su (su (su (su s 1 (s 1 - 1)) 2 (s 2 - 1)) 5 x) 4 (if rInner s r = 2 then 1 else 0) 2 = s 2 - 1 := rfl
  unfold AI tpB
  rw [e1, e2, e4]
  refine ⟨by omega, fun j hj => a2 j (by omega), fun _ _ _ => ?_, fun z => ?_, ?_, ?_⟩
  · have := (a2 (s 1 - 1).toNat (by omega)).2.2 (by omega)
    rcases this with z | z
    · left; omega
    · right; rw [show (s 1 - 1 - 1).toNat = (s 1 - 1).toNat - 1 by omega]; exact z
  · split at z <;> omega
  · rw [a5, show (s 1).toNat = (s 1 - 1).toNat + 1 by omega]
    simp only [blk]
    rw [if_pos ht2]
    omega
  · split <;> decide
theorem AI_own {x v : Int} (hA : AI s r) (hv : 0 ≤ v ∧ v ≤ 9 ∧ v ≠ 5) (ht : tpB s r) : AI (ownS s x v) r := by
  obtain ⟨a1, a2, a3, a4, a5, a6⟩ := hA
  exact ⟨a1, a2, fun _ _ _ => ht, fun z => absurd z hv.2.2, a5, ⟨hv.1, hv.2.1⟩⟩
theorem AI_pushS {v w : Int} (hA : AI s r) (h3 : pushS (su s 4 v) 3 = 0) (hw : (w = 0 ∧ v = 6) ∨ (w = 1 ∧ v = 5 ∧ tpB s r)) : AI (pushS (su s 4 v)) (pushR (su s 4 v) r w) := by
  obtain ⟨p1, p2, p3⟩ := push_in (u := su s 4 v) (r := r) (v := w) hA.1 h3
  rw [p2, p3]
  exact AI_push hA p1 hw
theorem AI_blockS {b : Int} (hA : AI s r) (h3 : stBlS s 3 = 0) (hb : b = 2 ∨ b = 3 ∨ b = 4) (ht : tpB s r) : AI (stBlS s) (stBlR s r b) := by
  unfold stBlS stBlR at *
  obtain ⟨p1, p2, p3⟩ := push_in (u := su (su s 4 0) 2 (s 2 + 1)) (r := r) (v := b) hA.1 h3
  rw [p2, p3]
  exact AI_block hA p1 hb ht
theorem AI_std (hA : AI u r) (hv : stdV u r ≠ 0) (h3 : stdS u r 3 = 0) : AI (stdS u r) (stdR u r) := by
  have h4 := hA.2.2.2.2.2
  have q : u 4 = 0 ∨ u 4 = 1 ∨ u 4 = 2 ∨ u 4 = 3 ∨ u 4 = 4 ∨ u 4 = 5 ∨ u 4 = 6 ∨ u 4 = 7 ∨ u 4 = 8 ∨ u 4 = 9 := by omega
  have tp : u 4 ≠ 5 → u 4 ≠ 6 → u 4 ≠ 7 → tpB u r := hA.2.2.1
  have spt : (u 4 = 6 ∨ (u 4 = 5 ∧ u 10 ≠ 41)) → AI (stdS u r) (stdR u r) := by
    intro z
    obtain ⟨t1, t2, t3⟩ := std_6 (r := r) z
    rw [t1] at hv
    rw [t2] at h3 ⊢
    rw [t3]
    by_cases q1 : u 10 = 40
    · obtain ⟨p1, p2, p3⟩ := spt_op (r := r) q1
      rw [p2] at h3 ⊢
      rw [p3]
      exact AI_pushS hA h3 (Or.inl ⟨rfl, rfl⟩)
    · by_cases q2 : u 10 = 1 ∨ u 10 = 2
      · obtain ⟨p1, p2, p3⟩ := spt_nm (r := r) q2
        rw [p2, p3]
        exact AI_su hA (by decide) (fun _ z => absurd rfl z)
      · exact absurd (spt_no q2 q1) hv
  have stm : (u 4 = 0 ∨ u 4 = 1) → AI (stdS u r) (stdR u r) := by
    intro z
    have ht := tp (by omega) (by omega) (by omega)
    obtain ⟨t1, t2, t3⟩ := std_0 (r := r) z
    rw [t1] at hv
    rw [t2, t3]
    by_cases q1 : u 10 = 1
    · rw [(stm_1 q1).2]; exact AI_own hA (by decide) ht
    by_cases q6 : u 10 = 6
    · rw [(stm_6 q6).2]; exact AI_own hA (by decide) ht
    by_cases q3 : u 10 = 3
    · rw [(stm_3 q3).2]; exact AI_own hA (by decide) ht
    by_cases q5 : u 10 = 5
    · rw [(stm_5 q5).2]; exact AI_own hA (by decide) ht
    by_cases q4 : u 10 = 4
    · obtain ⟨p1, p2⟩ := stm_4 (r := r) q4
      rw [p1] at hv
      rw [p2, if_pos (jb_nz.mp hv)]
      exact AI_su hA (by decide) (fun _ _ => ht)
    by_cases q125 : u 10 = 125
    · obtain ⟨p1, p2⟩ := stm_125 (r := r) q125
      rw [p1] at hv
      rw [p2]
      exact AI_endBl hA (jb_nz.mp hv) ht
    · exact absurd (stm_no q1 q6 q3 q5 (fun z => absurd z q4) (fun z => absurd z q125)) hv
  rcases q with q | q | q | q | q | q | q | q | q | q
  · exact stm (Or.inl q)
  · exact stm (Or.inr q)
  · obtain ⟨t1, t2, t3⟩ := std_2 (r := r) q
    rw [t1] at hv
    rw [t2, t3, if_pos (jb_nz.mp hv)]
    exact AI_su hA (by decide) (fun z => absurd rfl z)
  · obtain ⟨t1, t2, t3⟩ := std_3 (r := r) q
    rw [t1] at hv
    rw [t2, t3, if_pos (jb_nz.mp hv)]
    exact AI_su hA (by decide) (fun _ _ => tp (by omega) (by omega) (by omega))
  · obtain ⟨t1, t2, t3⟩ := std_4 (r := r) q
    rw [t1] at hv
    rw [t2, if_pos (jb_nz.mp hv)] at h3 ⊢
    rw [t3, if_pos (jb_nz.mp hv)]
    exact AI_pushS hA h3 (Or.inr ⟨rfl, rfl, tp (by omega) (by omega) (by omega)⟩)
  · by_cases q1 : u 10 = 41
    · obtain ⟨t1, t2, t3⟩ := std_5c (r := r) q q1
      rw [t2, t3]
      have := hA.2.2.2.1 q
      exact AI_endBr hA (Or.inr (by rw [rInner_top ⟨this.1, hA.1.2⟩]; exact this.2))
    · exact spt (Or.inr ⟨q, q1⟩)
  · exact spt (Or.inl q)
  · obtain ⟨t1, t2, t3⟩ := std_7 (r := r) q
    rw [t1] at hv
    rw [t2] at h3 ⊢
    rw [t3]
    by_cases q1 : u 10 = 43 ∨ u 10 = 45 ∨ u 10 = 60
    · obtain ⟨p1, p2, p3⟩ := go_op (r := r) q1
      rw [p2, p3]
      exact AI_su hA (by decide) (fun z => absurd rfl z)
    by_cases i0 : rInner u r = 0
    · obtain ⟨p1, p2, p3⟩ := go_gr (r := r) q1 i0
      rw [p1] at hv
      rw [p2, p3, if_pos (jb_nz.mp hv)]
      exact AI_endBr hA (Or.inl i0)
    by_cases i1 : rInner u r = 1
    · obtain ⟨p1, p2, p3⟩ := go_ar (r := r) q1 i1
      rw [p1] at hv
      rw [p2, p3]
      by_cases q2 : u 10 = 41
      · rw [if_pos q2]; exact AI_endBr hA (Or.inr i1)
      · rw [if_neg q2] at hv ⊢
        rw [if_pos (jb_nz.mp hv)]
        exact AI_su hA (by decide) (fun z => absurd rfl z)
    have ht := in_tpB i0 i1 hA
    by_cases q5 : u 5 = 0
    · obtain ⟨p1, p2, p3⟩ := go_nm (r := r) q1 i0 i1 q5
      rw [p1] at hv
      rw [p2, p3, if_pos (jb_nz.mp hv)]
      exact AI_su hA (by decide) (fun _ _ => ht)
    · obtain ⟨p1, p2, p3⟩ := go_bl (r := r) q1 i0 i1 q5
      rw [p1] at hv
      rw [p2, if_pos (jb_nz.mp hv)] at h3 ⊢
      rw [p3, if_pos (jb_nz.mp hv)]
      exact AI_blockS hA h3 (by split <;> omega) ht
  · obtain ⟨t1, t2, t3⟩ := std_8 (r := r) q
    rw [t1] at hv
    rw [t2, t3, if_pos (jb_nz.mp hv)]
    exact AI_su hA (by decide) (fun _ _ => tp (by omega) (by omega) (by omega))
  · obtain ⟨t1, t2, t3⟩ := std_9 (r := r) q
    rw [t1] at hv
    rw [t2, if_pos (jb_nz.mp hv)] at h3 ⊢
    rw [t3, if_pos (jb_nz.mp hv)]
    exact AI_blockS hA h3 (by omega) (tp (by omega) (by omega) (by omega))
theorem AI_sc (hA : AI s r) : AI (scS f n s) r := hA
theorem std_at7 (h : u 10 = 7) : stdV u r = 0 := by
  unfold stdV sptV goV stmV
  simp [h, jb]
/-- behind a ) no WORD and no NUMBER can stand -/
theorem std_par (h : u 4 = 7 ∨ u 4 = 8) (hg : 1 ≤ u 10 ∧ u 10 ≤ 6) : stdV u r = 0 := by
  rcases h with h | h
  · rw [(std_7 (r := r) h).1]
    unfold goV
    rw [if_neg (by omega), ← jb_f (show ¬ u 10 = 41 by omega), if_neg (show ¬ u 10 = 41 by omega), ← jb_f (show ¬ u 10 = 44 by omega), ← jb_f (show ¬ u 10 = 59 by omega), ← jb_f (show ¬ u 10 = 123 by omega)]
    (repeat' split) <;> rfl
  · rw [(std_8 (r := r) h).1, ← jb_f (by omega)]
theorem std_41 (hv : stdV u r ≠ 0) (hg : u 10 = 41) (h4 : 0 ≤ u 4 ∧ u 4 ≤ 9) : stdS u r 4 = 7 ∨ stdS u r 4 = 8 := by
  have key : endBrS u r 4 = 7 ∨ endBrS u r 4 = 8 := by
    show (if rInner u r = 1 then (8 : Int) else 7) = 7 ∨ (if rInner u r = 1 then (8 : Int) else 7) = 8
    split <;> simp
  have q : u 4 = 0 ∨ u 4 = 1 ∨ u 4 = 2 ∨ u 4 = 3 ∨ u 4 = 4 ∨ u 4 = 5 ∨ u 4 = 6 ∨ u 4 = 7 ∨ u 4 = 8 ∨ u 4 = 9 := by omega
  rcases q with q | q | q | q | q | q | q | q | q | q
  · rw [(std_0 (r := r) (Or.inl q)).1] at hv
    exact absurd (stm_no (by omega) (by omega) (by omega) (by omega) (by omega) (by omega)) hv
  · rw [(std_0 (r := r) (Or.inr q)).1] at hv
    exact absurd (stm_no (by omega) (by omega) (by omega) (by omega) (by omega) (by omega)) hv
  · rw [(std_2 (r := r) q).1, ← jb_f (by omega)] at hv
    exact absurd rfl hv
  · rw [(std_3 (r := r) q).1, ← jb_f (by omega)] at hv
    exact absurd rfl hv
  · rw [(std_4 (r := r) q).1, ← jb_f (by omega)] at hv
    exact absurd rfl hv
  · rw [(std_5c (r := r) q hg).2.1]; exact key
  · rw [(std_6 (r := r) (Or.inl q)).1] at hv
    exact absurd (spt_no (by omega) (by omega)) hv
  · obtain ⟨t1, t2, t3⟩ := std_7 (r := r) q
    rw [t1] at hv
    rw [t2]
    unfold goV at hv
    unfold goS
    rw [if_neg (by omega)] at hv ⊢
    by_cases i0 : rInner u r = 0
    · rw [if_pos i0, if_pos hg]; exact key
    · rw [if_neg i0] at hv ⊢
      by_cases i1 : rInner u r = 1
      · rw [if_pos i1, if_pos hg]; exact key
      · rw [if_neg i1, ← jb_f (show ¬ u 10 = 59 by omega), ← jb_f (show ¬ u 10 = 123 by omega)] at hv
        exact absurd (by split <;> rfl) hv
  · rw [(std_8 (r := r) q).1, ← jb_f (by omega)] at hv
    exact absurd rfl hv
  · rw [(std_9 (r := r) q).1, ← jb_f (by omega)] at hv
    exact absurd rfl hv
def ti (ts : List T5) (i : Nat) : T5 := ts.getD i (0, 0, 0, 0, 0)
/-- a TOKEN of the text's n bytes f -/
def TkW (f : Nat → Int) (n : Nat) (t : T5) : Prop := (∃ i, t.1 = (tkS f n i : Int) ∧ t.2.1 = (tkE f n i : Int) ∧ t.2.2.1 = tkG f n i ∧ tkG f n i ≠ 8 ∧ tkG f n i ≠ 7 ∧ (tkG f n i = 1 → tkE f n i ≤ tkS f n i + 16)) ∧ (0 ≤ t.2.2.2.1 ∧ t.2.2.2.1 ≤ 6) ∧ (0 ≤ t.2.2.2.2 ∧ t.2.2.2.2 ≤ 3)
/-- the TOKENS of a text -/
def WT (f : Nat → Int) (n : Nat) (ts : List T5) : Prop := (∀ i, i < ts.length → TkW f n (ti ts i)) ∧ ∀ i, i + 1 < ts.length → (ti ts i).2.1 ≤ (ti ts (i + 1)).1 ∧ ((ti ts i).2.2.1 = 41 → ¬ (1 ≤ (ti ts (i + 1)).2.2.1 ∧ (ti ts (i + 1)).2.2.1 ≤ 6))
def LI (s : Nat → Int) (ts : List T5) : Prop := ts.length = 0 ∨ ((ti ts (ts.length - 1)).2.1 = s 9 ∧ ((ti ts (ts.length - 1)).2.2.1 = 41 → s 4 = 7 ∨ s 4 = 8))
theorem ti_app {ts : List T5} {t : T5} {k : Nat} : ti (ts ++ [t]) k = if k < ts.length then ti ts k else if k = ts.length then t else (0, 0, 0, 0, 0) := getD_app
theorem rdGo_wt : ∀ (k : Nat) (s r : Nat → Int) (ts : List T5), AI s r → (0 ≤ s 5 ∧ s 5 ≤ 3) → 0 ≤ s 9 → s 3 = 0 → WT f n ts → LI s ts → (rdGo f n k s r ts).1 = 0 → WT f n (rdGo f n k s r ts).2.2.2.1
  | 0, s, r, ts, _, _, _, _, _, _, h => absurd h (by simp [rdGo])
  | k + 1, s, r, ts, hA, h5, h9, h30, hW, hL, h => by
    rw [rdGo] at h ⊢
    by_cases q8 : scS f n s 10 = 8
    · rw [if_pos q8] at h ⊢
      split at h
      · next z => rw [if_pos z]; exact hW
      · exact absurd h (by show ¬ (1 : Int) = 0; decide)
    · rw [if_neg q8] at h ⊢
      by_cases qv : stdV (scS f n s) r = 0
      · rw [if_pos qv] at h
        exact absurd h (by show ¬ (1 : Int) = 0; decide)
      · rw [if_neg qv] at h ⊢
        by_cases qt : tooB ts.length (stdS (scS f n s) r) = true
        · rw [if_pos qt] at h
          exact absurd h (by show ¬ (2 : Int) = 0; decide)
        · rw [if_neg qt] at h ⊢
          have ht : ¬ (200 ≤ (ts.length : Int) ∨ stdS (scS f n s) r 3 ≠ 0 ∨ (stdS (scS f n s) r 10 = 1 ∧ 16 < stdS (scS f n s) r 9 - stdS (scS f n s) r 8) ∨ (stdS (scS f n s) r 10 = 2 ∧ 6 < stdS (scS f n s) r 9 - stdS (scS f n s) r 8)) := fun z => qt (by unfold tooB; exact decide_eq_true z)
          have h3 : stdS (scS f n s) r 3 = 0 := by omega
          have hA' := AI_std (AI_sc (f := f) (n := n) hA) qv h3
          obtain ⟨e8, e9, e10⟩ := std_89 (scS f n s) r
          rw [scS_8] at e8
          rw [scS_9] at e9
          rw [scS_10] at e10
          have h5' := std_5 (s := scS f n s) (r := r) h5
          have hsp := (Sp_std (s := scS f n s) (r := r) hA.1 h30 qv).1
          have q41 := std_41 (u := scS f n s) (r := r) qv
          have qpar := std_par (u := scS f n s) (r := r)
          rw [scS_10] at hsp q8
          have h7 : tkG f n (s 9).toNat ≠ 7 := fun z => qv (std_at7 z)
          have hb := blk_r r (s 1).toNat
          have hb' := blk_r (stdR (scS f n s) r) (stdS (scS f n s) r 1).toNat
          have hs2 : s 2 = blk r (s 1).toNat := hA.2.2.2.2.1
          have hs2' := hA'.2.2.2.2.1
          have ha1 := hA.1
          have ha1' := hA'.1
          have hrun := runW_le isBlB f (n - (s 9).toNat) (s 9).toNat
          have hS : (s 9).toNat ≤ tkS f n (s 9).toNat := hrun.1
          generalize hs1 : stdS (scS f n s) r = s1 at *
          refine rdGo_wt k s1 (stdR (scS f n s) r) (ts ++ [tokOf s1]) hA' h5' (by omega) h3 ⟨fun i hi => ?_, fun i hi => ?_⟩ (Or.inr ?_) h
          · rw [ti_app]
            by_cases q : i < ts.length
            · rw [if_pos q]; exact hW.1 i q
            · rw [len_app] at hi
              rw [if_neg q, if_pos (by omega)]
              refine ⟨⟨(s 9).toNat, e8, e9, e10, q8, h7, fun z => by omega⟩, ?_, h5'⟩
              show 0 ≤ (if s1 10 = 123 then s1 2 - 1 else s1 2) ∧ (if s1 10 = 123 then s1 2 - 1 else s1 2) ≤ 6
              by_cases qg : tkG f n (s 9).toNat = 123
              · rw [if_pos (by omega)]
                rw [if_pos qg, if_neg (by omega)] at hsp
                have : scS f n s 2 = s 2 := rfl
                omega
              · rw [if_neg (by omega)]
                omega
          · rw [len_app] at hi
            rw [ti_app, ti_app]
            by_cases q : i + 1 < ts.length
            · rw [if_pos q, if_pos (by omega)]; exact hW.2 i q
            · rw [if_pos (by omega), if_neg q, if_pos (by omega)]
              rcases hL with z | ⟨z1, z2⟩
              · omega
              · rw [show ts.length - 1 = i by omega] at z1 z2
                refine ⟨?_, fun z41 zg => ?_⟩
                · show (ti ts i).2.1 ≤ s1 8
                  omega
                · have zg' : 1 ≤ s1 10 ∧ s1 10 ≤ 6 := zg
                  exact qv (qpar (z2 z41) (by show 1 ≤ tkG f n (s 9).toNat ∧ tkG f n (s 9).toNat ≤ 6; omega))
          · rw [len_app, ti_app, if_neg (by omega), if_pos (by omega)]
            refine ⟨rfl, fun z => ?_⟩
            have z' : s1 10 = 41 := z
            exact q41 (by show tkG f n (s 9).toNat = 41; omega) hA.2.2.2.2.2
theorem AI_0 (h r : Nat → Int) : AI (rdS0 h) r := by
  refine ⟨?_, fun j hj => ?_, fun _ _ _ => Or.inl rfl, fun z => ?_, rfl, ?_⟩
  · show (0 : Int) ≤ 0 ∧ (0 : Int) ≤ 6; decide
  · exact absurd hj (by show ¬ (j : Int) < 0; omega)
  · exact absurd z (by show ¬ (0 : Int) = 5; decide)
  · show (0 : Int) ≤ 0 ∧ (0 : Int) ≤ 9; decide
/-- what is read without FAULT is well formed -/
theorem read_wt {h r : Nat → Int} (hf : (rdGo f n 201 (rdS0 h) r []).1 = 0) : WT f n (rdGo f n 201 (rdS0 h) r []).2.2.2.1 := by
  refine rdGo_wt 201 (rdS0 h) r [] (AI_0 h r) (by show (0 : Int) ≤ 0 ∧ (0 : Int) ≤ 3; decide) (by show (0 : Int) ≤ 0; decide) rfl ⟨fun i hi => absurd hi (by simp), fun i hi => absurd hi (by simp)⟩ (Or.inl rfl) hf
/-- the reading depends on the bytes alone: the signed and the unsigned ones -/
def bR (x y : Int) : Prop := x = y ∧ 0 ≤ y ∧ y ≤ 127 ∨ x = y - 256 ∧ 128 ≤ y ∧ y ≤ 255
theorem bR_jB {y : Int} (h : 0 ≤ y ∧ y ≤ 255) : bR (jB y) y := by
  by_cases q : y ≤ 127
  · exact Or.inl ⟨jB_id ⟨by omega, q⟩, h.1, q⟩
  · exact Or.inr ⟨by rw [jB_eq, Int.bmod_def]; split <;> omega, by omega, h.2⟩
theorem runW_cg {p q : Int → Bool} {g : Nat → Int} : ∀ (k i : Nat), (∀ j, i ≤ j → j < i + k → p (f j) = q (g j)) → runW p f k i = runW q g k i
  | 0, i, _ => rfl
  | k + 1, i, h => by
    simp only [runW]
    rw [h i (by omega) (by omega), runW_cg k (i + 1) (fun j h1 h2 => h j (by omega) (by omega))]
theorem allE_cg2 {f g h : Nat → Int} : ∀ (k i j : Nat), (∀ m, i ≤ m → m < i + k → (f m = h (m + j - i) ↔ g m = h (m + j - i))) → allE f h i j k = allE g h i j k
  | 0, i, j, _ => rfl
  | k + 1, i, j, e => by
    have e0 := e i (by omega) (by omega)
    rw [show i + j - i = j by omega] at e0
    have e1 := allE_cg2 (f := f) (g := g) (h := h) k (i + 1) (j + 1) (fun m h1 h2 => by have := e m (by omega) (by omega); rw [show m + j - i = m + (j + 1) - (i + 1) by omega] at this; exact this)
    simp only [allE]
    rw [e1]
    by_cases q : f i = h j
    · rw [if_pos q, if_pos (e0.mp q)]
    · rw [if_neg q, if_neg (fun z => q (e0.mpr z))]
theorem tkS_cg {g : Nat → Int} {i : Nat} (h : ∀ k, k < n → bR (f k) (g k)) : tkS f n i = tkS g n i := by
  unfold tkS
  refine runW_cg _ _ (fun j h1 h2 => ?_)
  have := h j (by omega)
  unfold bR at this
  unfold isBlB
  rw [decide_eq_decide]
  omega
theorem isLt_cg {x y : Int} (h : bR x y) : isLtB x = isLtB y := by
  unfold bR at h
  unfold isLtB
  rw [decide_eq_decide]
  omega
theorem isDg_cg {x y : Int} (h : bR x y) : isDgB x = isDgB y := by
  unfold bR at h
  unfold isDgB
  rw [decide_eq_decide]
  omega
theorem isWd_cg {x y : Int} (h : bR x y) : isWdB x = isWdB y := by
  unfold bR at h
  unfold isWdB
  rw [decide_eq_decide]
  omega
theorem isSg_cg {x y : Int} (h : bR x y) : isSgB x = isSgB y := by
  unfold bR at h
  unfold isSgB
  rw [decide_eq_decide]
  omega
theorem tkE_cg {g : Nat → Int} {i : Nat} (h : ∀ k, k < n → bR (f k) (g k)) : tkE f n i = tkE g n i := by
  unfold tkE
  rw [tkS_cg h]
  by_cases q : n ≤ tkS g n i
  · rw [if_pos q, if_pos q]
  · rw [if_neg q, if_neg q]
    have hT := h (tkS g n i) (by omega)
    rw [isLt_cg hT, isDg_cg hT, runW_cg (q := isWdB) (g := g) _ _ (fun j h1 h2 => isWd_cg (h j (by omega))), runW_cg (q := isDgB) (g := g) _ _ (fun j h1 h2 => isDg_cg (h j (by omega)))]
theorem isKw_cg2 {g : Nat → Int} {i : Nat} {x y : Int} (hi : i < 15) (hy : y ≤ (n : Int)) (h : ∀ k, k < n → bR (f k) (g k)) : isKw f 800 i x y = isKw g 800 i x y := by
  unfold isKw
  rw [decide_eq_decide]
  constructor
  · rintro ⟨p1, p2, p3, p4⟩
    refine ⟨p1, p2, p3, ?_⟩
    rw [← p4]
    refine (allE_cg2 _ _ _ (fun m h1 h2 => ?_)).symm
    have := h m (by omega)
    have hc := sCh_ok i hi (m + 0 - x.toNat) (by omega)
    unfold bR at this
    omega
  · rintro ⟨p1, p2, p3, p4⟩
    refine ⟨p1, p2, p3, ?_⟩
    rw [← p4]
    refine allE_cg2 _ _ _ (fun m h1 h2 => ?_)
    have := h m (by omega)
    have hc := sCh_ok i hi (m + 0 - x.toNat) (by omega)
    unfold bR at this
    omega
theorem tkG_cg {g : Nat → Int} {i : Nat} (h : ∀ k, k < n → bR (f k) (g k)) : tkG f n i = tkG g n i := by
  unfold tkG
  rw [tkS_cg h, tkE_cg h]
  by_cases q : n ≤ tkS g n i
  · rw [if_pos q, if_pos q]
  · rw [if_neg q, if_neg q]
    have hT := h (tkS g n i) (by omega)
    rw [isLt_cg hT, isDg_cg hT, isSg_cg hT]
    have hE : tkE g n i ≤ n := by
      have := tk_in (g := g) (n := n) (j := i) (fun z => q (tkG_8.mp z))
      omega
    have hw : wSort f 800 (tkS g n i : Int) (tkE g n i : Int) = wSort g 800 (tkS g n i : Int) (tkE g n i : Int) := by
      unfold wSort
      rw [isKw_cg2 (n := n) (i := 0) (by decide) (by omega) h, isKw_cg2 (n := n) (i := 1) (by decide) (by omega) h, isKw_cg2 (n := n) (i := 2) (by decide) (by omega) h, isKw_cg2 (n := n) (i := 3) (by decide) (by omega) h]
    rw [hw]
    by_cases qs : isSgB (g (tkS g n i)) = true
    · have : f (tkS g n i) = g (tkS g n i) := by
        unfold isSgB at qs
        rw [decide_eq_true_iff] at qs
        unfold bR at hT
        omega
      rw [this]
    · rw [if_neg qs, if_neg qs]
theorem scS_cg {g : Nat → Int} (h : ∀ k, k < n → bR (f k) (g k)) : scS f n s = scS g n s := by
  unfold scS
  rw [tkS_cg h, tkE_cg h, tkG_cg h]
theorem rdGo_cg {g : Nat → Int} (h : ∀ k, k < n → bR (f k) (g k)) : ∀ (k : Nat) (s r : Nat → Int) (ts : List T5), rdGo f n k s r ts = rdGo g n k s r ts
  | 0, s, r, ts => rfl
  | k + 1, s, r, ts => by
    simp only [rdGo]
    rw [scS_cg h, rdGo_cg h k]
end JWF
