section JRW
variable {E : jE} {I : jI} {P : jP} {d m n t u : Nat} {a : Nat → Nat} {x : TX} {σ : Nat → Int} {ts : List T5} {hand : Int}
theorem rfM_row {j : Nat} (hR : RfL E P m a) (hj : j ∈ rfK) (h : j < 9 ∨ 15 < j) : rfM I m a σ ts (a j) = I (a j) := rfM_x (hR.nm hj) (hR.d hj (by decide) (by omega)) (hR.d hj (by decide) (by omega)) (hR.d hj (by decide) (by omega)) (hR.d hj (by decide) (by omega)) (hR.d hj (by decide) (by omega)) (hR.d hj (by decide) (by omega)) (hR.d hj (by decide) (by omega))
theorem rwT_lo {h : T5 → Int} {f : Nat → Int} {k : Nat} (hk : k < 2412) : rwT h ts f k = f k := by unfold rwT; rw [if_neg (by omega)]
theorem rwT_hi {h : T5 → Int} {f : Nat → Int} {k : Nat} (hk : k < ts.length) : rwT h ts f (2412 + k) = h (ti ts k) := by
  unfold rwT
  rw [if_pos (by omega), show 2412 + k - 2412 = k by omega]
  rfl
theorem rfM_11 (hR : RfL E P m a) : rfM I m a σ ts (a 11) = rwT (fun t => t.1) ts (I (a 11)) := by
  funext k
  have h0 := hR.n11
  have h9 : a 11 ≠ a 9 := hR.d (by decide) (by decide) (by decide)
  have h10 : a 11 ≠ a 10 := hR.d (by decide) (by decide) (by decide)
  simp [rfM, h0, h9, h10]
theorem rfM_12 (hR : RfL E P m a) : rfM I m a σ ts (a 12) = rwT (fun t => t.2.1 - t.1) ts (I (a 12)) := by
  funext k
  have h0 := hR.n12
  have h9 : a 12 ≠ a 9 := hR.d (by decide) (by decide) (by decide)
  have h10 : a 12 ≠ a 10 := hR.d (by decide) (by decide) (by decide)
  have h11 : a 12 ≠ a 11 := hR.d (by decide) (by decide) (by decide)
  simp [rfM, h0, h9, h10, h11]
theorem rfM_13 (hR : RfL E P m a) : rfM I m a σ ts (a 13) = rwT (fun t => srt t.2.2.1) ts (I (a 13)) := by
  funext k
  have h0 := hR.n13
  have h9 : a 13 ≠ a 9 := hR.d (by decide) (by decide) (by decide)
  have h10 : a 13 ≠ a 10 := hR.d (by decide) (by decide) (by decide)
  have h11 : a 13 ≠ a 11 := hR.d (by decide) (by decide) (by decide)
  have h12 : a 13 ≠ a 12 := hR.d (by decide) (by decide) (by decide)
  simp [rfM, h0, h9, h10, h11, h12]
theorem rfM_14 (hR : RfL E P m a) : rfM I m a σ ts (a 14) = rwT (fun t => t.2.2.2.1) ts (I (a 14)) := by
  funext k
  have h0 := hR.n14
  have h9 : a 14 ≠ a 9 := hR.d (by decide) (by decide) (by decide)
  have h10 : a 14 ≠ a 10 := hR.d (by decide) (by decide) (by decide)
  have h11 : a 14 ≠ a 11 := hR.d (by decide) (by decide) (by decide)
  have h12 : a 14 ≠ a 12 := hR.d (by decide) (by decide) (by decide)
  have h13 : a 14 ≠ a 13 := hR.d (by decide) (by decide) (by decide)
  simp [rfM, h0, h9, h10, h11, h12, h13]
theorem rfM_15 (hR : RfL E P m a) : rfM I m a σ ts (a 15) = rwT (fun t => t.2.2.2.2) ts (I (a 15)) := by
  funext k
  have h0 := hR.n15
  have h9 : a 15 ≠ a 9 := hR.d (by decide) (by decide) (by decide)
  have h10 : a 15 ≠ a 10 := hR.d (by decide) (by decide) (by decide)
  have h11 : a 15 ≠ a 11 := hR.d (by decide) (by decide) (by decide)
  have h12 : a 15 ≠ a 12 := hR.d (by decide) (by decide) (by decide)
  have h13 : a 15 ≠ a 13 := hR.d (by decide) (by decide) (by decide)
  have h14 : a 15 ≠ a 14 := hR.d (by decide) (by decide) (by decide)
  simp [rfM, h0, h9, h10, h11, h12, h13, h14]
theorem rfM_9u (hR : RfL E P m a) (hu : u ≠ 12) : rfM I m a σ ts (a 9) u = I (a 9) u := by
  have h10 : a 9 ≠ a 10 := hR.d (by decide) (by decide) (by decide)
  have h11 : a 9 ≠ a 11 := hR.d (by decide) (by decide) (by decide)
  have h12 : a 9 ≠ a 12 := hR.d (by decide) (by decide) (by decide)
  have h13 : a 9 ≠ a 13 := hR.d (by decide) (by decide) (by decide)
  have h14 : a 9 ≠ a 14 := hR.d (by decide) (by decide) (by decide)
  have h15 : a 9 ≠ a 15 := hR.d (by decide) (by decide) (by decide)
  simp [rfM, hR.n9, hu, h10, h11, h12, h13, h14, h15]
theorem rfM_10u (hR : RfL E P m a) (hu : u ≠ 12) : rfM I m a σ ts (a 10) u = I (a 10) u := by
  have h9 : a 10 ≠ a 9 := hR.d (by decide) (by decide) (by decide)
  have h11 : a 10 ≠ a 11 := hR.d (by decide) (by decide) (by decide)
  have h12 : a 10 ≠ a 12 := hR.d (by decide) (by decide) (by decide)
  have h13 : a 10 ≠ a 13 := hR.d (by decide) (by decide) (by decide)
  have h14 : a 10 ≠ a 14 := hR.d (by decide) (by decide) (by decide)
  have h15 : a 10 ≠ a 15 := hR.d (by decide) (by decide) (by decide)
  simp [rfM, hR.n10, hu, h9, h11, h12, h13, h14, h15]
theorem rfM_fm {k : Nat} (hR : RfL E P m a) (h : ¬ (k = 3 ∨ k = 4 ∨ (22 ≤ k ∧ k ≤ 27))) : rfM I m a σ ts m k = I m k := by
  unfold rfM
  rw [if_neg (fun z => h z.2)]
  simp [Ne.symm hR.n9, Ne.symm hR.n10, Ne.symm hR.n11, Ne.symm hR.n12, Ne.symm hR.n13, Ne.symm hR.n14, Ne.symm hR.n15]
/-- what was read last leaves the TEXTS as they are -/
theorem rfM_rt (hR : RfL E P m a) (hu : u < 12) (hW : WX x) (hT : RT I a u x) : RT (rfM I m a σ ts) a u x := by
  obtain ⟨h7, h8, h9, h10, h6, hk⟩ := hT
  have hl := hW.2.2.2.1
  refine ⟨by rw [rfM_row hR (by decide) (by decide)]; exact h7, by rw [rfM_row hR (by decide) (by decide)]; exact h8, by rw [rfM_9u hR (by omega)]; exact h9, by rw [rfM_10u hR (by omega)]; exact h10, fun k h => by rw [rfM_row hR (by decide) (by decide)]; exact h6 k h, fun k h => ?_⟩
  rw [rfM_11 hR, rfM_12 hR, rfM_13 hR, rfM_14 hR, rfM_15 hR, rwT_lo (by omega), rwT_lo (by omega), rwT_lo (by omega), rwT_lo (by omega), rwT_lo (by omega)]
  exact hk k h
theorem rd_row {j : Nat} (hR : RfL E P m a) (hj : j ∈ rfK) (h1 : ¬ (11 ≤ j ∧ j ≤ 15)) (h2 : j ≠ 6) : rdF I m a n t hand σ ts (a j) = rdF1 I m a n t hand σ ts (a j) := by
  unfold rdF
  have e : ∀ i, 11 ≤ i → i ≤ 15 → a j ≠ a i := fun i p q => hR.d hj (by have := rfK_515 i (by omega) q; exact this) (by omega)
  rw [c5_x (by simp [e 11 (by decide) (by decide), e 12 (by decide) (by decide), e 13 (by decide) (by decide), e 14 (by decide) (by decide), e 15 (by decide) (by decide)]), rdF2_x (hR.d hj (by decide) h2)]
theorem rd_tok {j : Nat} {h : T5 → Int} (hR : RfL E P m a) (hj : 11 ≤ j ∧ j ≤ 15) (hrow : rfM I m a σ ts (a j) = rwT h ts (I (a j))) (ht : t < 12) (hl : ts.length ≤ 200) : (∀ k, k < ts.length → rdF I m a n t hand σ ts (a j) (201 * t + k) = h (ti ts k)) ∧ ∀ u k, u < 12 → u ≠ t → k ≤ 200 → rdF I m a n t hand σ ts (a j) (201 * u + k) = I (a j) (201 * u + k) := by
  have hjk := rfK_515 j (by omega) hj.2
  have e0 : rdF I m a n t hand σ ts (a j) = cpR (rwT h ts (I (a j))) 2412 (201 * t) ts.length := by
    unfold rdF
    have hq : j = 11 ∨ j = 12 ∨ j = 13 ∨ j = 14 ∨ j = 15 := by omega
    rw [c5_r (by rcases hq with rfl | rfl | rfl | rfl | rfl <;> simp), rdF2_x (hR.d hjk (by decide) (by omega)), rdF1_x (hR.d hjk (by decide) (by omega)) (hR.d hjk (by decide) (by omega)) (hR.d hjk (by decide) (by omega)) (hR.d hjk (by decide) (by omega)) (hR.d hjk (by decide) (by omega)), hrow]
  rw [e0]
  refine ⟨fun k hk => ?_, fun u k h1 h2 h3 => ?_⟩
  · unfold cpR
    rw [if_pos (by omega), show 201 * t + k - 201 * t = k by omega, rwT_hi hk]
  · unfold cpR
    rw [if_neg (by omega), rwT_lo (by omega)]
theorem rdF_6 (hR : RfL E P m a) : rdF I m a n t hand σ ts (a 6) = cpR (I (a 6)) 9600 (800 * t) n := by
  funext k
  unfold rdF
  have e : ∀ i, 11 ≤ i → i ≤ 15 → a 6 ≠ a i := fun i p q => hR.d (by decide) (rfK_515 i (by omega) q) (by omega)
  rw [c5_x (by simp [e 11 (by decide) (by decide), e 12 (by decide) (by decide), e 13 (by decide) (by decide), e 14 (by decide) (by decide), e 15 (by decide) (by decide)])]
  unfold rdF2
  rw [if_pos rfl]
/-- a reading without FAULT: the TEXT t is what was read, the others stay -/
theorem rdF_rt (hR : RfL E P m a) (ht : t < 12) (hl : ts.length ≤ 200) (hn : n ≤ 800) : RT (rdF I m a n t hand σ ts) a t (n, gB I a, hand, ts, σ 10) ∧ rdF I m a n t hand σ ts (a 5) t = 1 ∧ ∀ u, u < 12 → u ≠ t → rdF I m a n t hand σ ts (a 5) u = I (a 5) u ∧ ∀ x, WX x → RT I a u x → RT (rdF I m a n t hand σ ts) a u x := by
  have d1 : ∀ {i j : Nat}, i ∈ rfK → j ∈ rfK → i ≠ j → a i ≠ a j := fun h1 h2 h3 => hR.d h1 h2 h3
  have r5 := rd_row (I := I) (n := n) (t := t) (hand := hand) (σ := σ) (ts := ts) (j := 5) hR (by decide) (by decide) (by decide)
  have r7 := rd_row (I := I) (n := n) (t := t) (hand := hand) (σ := σ) (ts := ts) (j := 7) hR (by decide) (by decide) (by decide)
  have r8 := rd_row (I := I) (n := n) (t := t) (hand := hand) (σ := σ) (ts := ts) (j := 8) hR (by decide) (by decide) (by decide)
  have r9 := rd_row (I := I) (n := n) (t := t) (hand := hand) (σ := σ) (ts := ts) (j := 9) hR (by decide) (by decide) (by decide)
  have r10 := rd_row (I := I) (n := n) (t := t) (hand := hand) (σ := σ) (ts := ts) (j := 10) hR (by decide) (by decide) (by decide)
  have r6 := rdF_6 (I := I) (n := n) (t := t) (hand := hand) (σ := σ) (ts := ts) hR
  obtain ⟨k11, o11⟩ := rd_tok (n := n) (hand := hand) (j := 11) hR (by decide) (rfM_11 (I := I) (σ := σ) (ts := ts) hR) ht hl
  obtain ⟨k12, o12⟩ := rd_tok (n := n) (hand := hand) (j := 12) hR (by decide) (rfM_12 (I := I) (σ := σ) (ts := ts) hR) ht hl
  obtain ⟨k13, o13⟩ := rd_tok (n := n) (hand := hand) (j := 13) hR (by decide) (rfM_13 (I := I) (σ := σ) (ts := ts) hR) ht hl
  obtain ⟨k14, o14⟩ := rd_tok (n := n) (hand := hand) (j := 14) hR (by decide) (rfM_14 (I := I) (σ := σ) (ts := ts) hR) ht hl
  obtain ⟨k15, o15⟩ := rd_tok (n := n) (hand := hand) (j := 15) hR (by decide) (rfM_15 (I := I) (σ := σ) (ts := ts) hR) ht hl
  have x5_7 := d1 (i := 5) (j := 7) (by decide) (by decide) (by decide)
  have x5_8 := d1 (i := 5) (j := 8) (by decide) (by decide) (by decide)
  have x5_9 := d1 (i := 5) (j := 9) (by decide) (by decide) (by decide)
  have x5_10 := d1 (i := 5) (j := 10) (by decide) (by decide) (by decide)
  have x7_8 := d1 (i := 7) (j := 8) (by decide) (by decide) (by decide)
  have x7_9 := d1 (i := 7) (j := 9) (by decide) (by decide) (by decide)
  have x7_10 := d1 (i := 7) (j := 10) (by decide) (by decide) (by decide)
  have x8_9 := d1 (i := 8) (j := 9) (by decide) (by decide) (by decide)
  have x8_10 := d1 (i := 8) (j := 10) (by decide) (by decide) (by decide)
  have x9_10 := d1 (i := 9) (j := 10) (by decide) (by decide) (by decide)
  refine ⟨⟨?_, ?_, ?_, ?_, fun k hk => ?_, fun k hk => ⟨k11 k hk, k12 k hk, k13 k hk, k14 k hk, k15 k hk⟩⟩, ?_, fun u hu hne => ⟨?_, fun x hW hT => ?_⟩⟩
  · rw [r7]; unfold rdF1; rw [jput_a _ x7_10, jput_a _ x7_9, jput_s]; rfl
  · rw [r8]; unfold rdF1; rw [jput_a _ x8_10, jput_a _ x8_9, jput_a _ (Ne.symm x7_8), jput_s]; rfl
  · rw [r9]; unfold rdF1; rw [jput_a _ x9_10, jput_s]; rfl
  · rw [r10]; unfold rdF1; rw [jput_s]; rfl
  · rw [r6]
    have hk' : k < n := hk
    unfold cpR
    rw [if_pos (by omega), show 800 * t + k - 800 * t = k by omega]
    rfl
  · rw [r5]; unfold rdF1; rw [jput_a _ x5_10, jput_a _ x5_9, jput_a _ x5_7, jput_a _ x5_8, jput_s]
  · rw [r5]; unfold rdF1; rw [jput_a _ x5_10, jput_a _ x5_9, jput_a _ x5_7, jput_a _ x5_8, jput_k _ hne, rfM_row hR (by decide) (by decide)]
  · obtain ⟨h7, h8, h9, h10, h6, hk⟩ := hT
    have hxl := hW.2.2.2.1
    have hxn := hW.1
    refine ⟨?_, ?_, ?_, ?_, fun k h => ?_, fun k h => ?_⟩
    · rw [r7]; unfold rdF1; rw [jput_a _ x7_10, jput_a _ x7_9, jput_k _ hne, jput_a _ x7_8, jput_a _ (Ne.symm x5_7), rfM_row hR (by decide) (by decide)]; exact h7
    · rw [r8]; unfold rdF1; rw [jput_a _ x8_10, jput_a _ x8_9, jput_a _ (Ne.symm x7_8), jput_k _ hne, jput_a _ (Ne.symm x5_8), rfM_row hR (by decide) (by decide)]; exact h8
    · rw [r9]; unfold rdF1; rw [jput_a _ x9_10, jput_k _ hne, jput_a _ (Ne.symm x7_9), jput_a _ (Ne.symm x8_9), jput_a _ (Ne.symm x5_9), rfM_9u hR (by omega)]; exact h9
    · rw [r10]; unfold rdF1; rw [jput_k _ hne, jput_a _ (Ne.symm x9_10), jput_a _ (Ne.symm x7_10), jput_a _ (Ne.symm x8_10), jput_a _ (Ne.symm x5_10), rfM_10u hR (by omega)]; exact h10
    · rw [r6]; unfold cpR; rw [if_neg (by omega)]; exact h6 k h
    · rw [o11 u k hu hne (by omega), o12 u k hu hne (by omega), o13 u k hu hne (by omega), o14 u k hu hne (by omega), o15 u k hu hne (by omega)]
      exact hk k h
theorem rdF_m {k : Nat} (hR : RfL E P m a) : rdF I m a n t hand σ ts m k = rfM I m a σ ts m k := by
  have e : ∀ i, 5 ≤ i → i ≤ 15 → m ≠ a i := fun i p q => Ne.symm (hR.nm (rfK_515 i p q))
  unfold rdF
  rw [c5_x (by simp [e 11 (by decide) (by decide), e 12 (by decide) (by decide), e 13 (by decide) (by decide), e 14 (by decide) (by decide), e 15 (by decide) (by decide)]), rdF2_x (e 6 (by decide) (by decide)), rdF1_x (e 5 (by decide) (by decide)) (e 7 (by decide) (by decide)) (e 8 (by decide) (by decide)) (e 9 (by decide) (by decide)) (e 10 (by decide) (by decide))]
theorem rdF_o {b : Nat} (h0 : b ≠ m) (h : ∀ j, 5 ≤ j → j ≤ 15 → b ≠ a j) : rdF I m a n t hand σ ts b = I b := by
  unfold rdF
  have e := h
  rw [c5_x (by simp [e 11 (by decide) (by decide), e 12 (by decide) (by decide), e 13 (by decide) (by decide), e 14 (by decide) (by decide), e 15 (by decide) (by decide)]), rdF2_x (e 6 (by decide) (by decide)), rdF1_x (e 5 (by decide) (by decide)) (e 7 (by decide) (by decide)) (e 8 (by decide) (by decide)) (e 9 (by decide) (by decide)) (e 10 (by decide) (by decide))]
  exact rfM_x h0 (e 9 (by decide) (by decide)) (e 10 (by decide) (by decide)) (e 11 (by decide) (by decide)) (e 12 (by decide) (by decide)) (e 13 (by decide) (by decide)) (e 14 (by decide) (by decide)) (e 15 (by decide) (by decide))
end JRW
