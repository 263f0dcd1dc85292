section JCT
variable {E : jE} {I : jI} {P : jP} {x : Nat} {q : Nat → Nat} {X : TX} {i : Nat}
/-- the class's object x, with its rows q, holds the TEXT X -/
def CT (I : jI) (x : Nat) (q : Nat → Nat) (X : TX) : Prop := (I x 9 = (xN X : Int) ∧ I x 10 = xH X ∧ I x 11 = ((xT X).length : Int) ∧ I x 12 = xS X) ∧ (∀ k, k < xN X → bR (I (q 0) k) (xF X k)) ∧ (∀ k, k < (xT X).length → I (q 1) k = xSt X k ∧ I (q 2) k = xEn X k ∧ I (q 3) k = xSg X k ∧ I (q 4) k = xDp X k ∧ I (q 5) k = xOw X k) ∧ ∀ k, k + 1 < (xT X).length → I (q 6) k = xKd X k ∧ I (q 7) k = xCh X k
theorem CT.cg {I' : jI} (h : CT I x q X) (hx : ∀ k, 9 ≤ k → k ≤ 12 → I' x k = I x k) (hq : ∀ j, j ≤ 7 → I' (q j) = I (q j)) : CT I' x q X := by
  unfold CT at *
  rw [hx 9 (by decide) (by decide), hx 10 (by decide) (by decide), hx 11 (by decide) (by decide), hx 12 (by decide) (by decide), hq 0 (by decide), hq 1 (by decide), hq 2 (by decide), hq 3 (by decide), hq 4 (by decide), hq 5 (by decide), hq 6 (by decide), hq 7 (by decide)]
  exact h
theorem CT.txi (h : CT I x q X) (hW : WX X) : TxI I x q := by
  have hl := hW.2.2.2.1
  refine ⟨by rw [h.1.2.2.1]; omega, fun k hk => ?_⟩
  rw [h.1.2.2.1, Int.toNat_natCast] at hk
  have t := (hW.tk hk).1
  have e := h.2.2.1 k hk
  rw [e.1, e.2.1]
  omega
theorem CT.gaps (h : CT I x q X) : gapsN (I x 11) = (xT X).length - 1 := by
  rw [h.1.2.2.1]
  unfold gapsN
  split <;> omega
theorem CT.dep (h : CT I x q X) (hW : WX X) : ∀ i, i < (I x 11).toNat → 0 ≤ I (q 4) i ∧ I (q 4) i ≤ 1000 := by
  intro i hi
  rw [h.1.2.2.1, Int.toNat_natCast] at hi
  have t := (hW.tk hi).2.2.2.1
  rw [(h.2.2.1 i hi).2.2.2.1]
  omega
theorem CT.txg (h : CT I x q X) (hW : WX X) : TxG I x q := by
  have hl := hW.2.2.2.1
  refine ⟨by rw [h.1.2.2.1]; omega, fun g hg => ?_, fun g hg => ?_, by rw [h.1.2.1]; exact hW.2.2.1⟩
  · rw [h.gaps] at hg
    rw [(h.2.2.2 g (by omega)).1]
    exact xKd_r X g
  · rw [h.gaps] at hg
    rw [(h.2.2.1 g (by omega)).2.2.2.2]
    exact (hW.tk (i := g) (by omega)).2.2.2.2
theorem CT.ord (h : CT I x q X) (hW : WX X) : ∀ i j, i < j → j < (I x 11).toNat → I (q 2) i ≤ I (q 1) j := by
  intro i j hij hj
  rw [h.1.2.2.1, Int.toNat_natCast] at hj
  rw [(h.2.2.1 i (by omega)).2.1, (h.2.2.1 j hj).1]
  exact hW.mono j i hij hj
theorem CT.tst (h : CT I x q X) (hi : i + 1 < (xT X).length) : tstV (I (q 5) i) (I x 10) (I (q 4) (i + 1)) = xTs X i := by
  rw [(h.2.2.1 i (by omega)).2.2.2.2, h.1.2.1, (h.2.2.1 (i + 1) hi).2.2.2.1]
  rfl
theorem rowF_cg {f g : Nat → Int} : ∀ (k i : Nat), (∀ j, i ≤ j → j < i + k → f j = g j) → rowF f i k = rowF g i k
  | 0, i, _ => rfl
  | k + 1, i, h => by
    simp only [rowF]
    rw [h i (by omega) (by omega), rowF_cg k (i + 1) (fun j h1 h2 => h j (by omega) (by omega))]
theorem CT.nm (h : CT I x q X) (hW : WX X) (hi : i < (xT X).length) : tNm I q i = xNm X i := by
  have t := (hW.tk hi).1
  have e := h.2.2.1 i hi
  unfold tNm xNm
  rw [e.1, e.2.1]
  refine rowF_cg _ _ (fun j h1 h2 => ?_)
  have hb := h.2.1 j (by omega)
  have ha := hW.asc hi (xF X j) (by
    unfold xNm
    obtain ⟨d, rfl⟩ : ∃ d, j = (xSt X i).toNat + d := ⟨j - (xSt X i).toNat, by omega⟩
    have : (rowF (xF X) (xSt X i).toNat (xEn X i - xSt X i).toNat).getD d 0 = xF X ((xSt X i).toNat + d) := rowF_at _ _ _ (by omega)
    rw [← this, List.getD_eq_getElem?_getD, List.getElem?_eq_getElem (by rw [rowF_len]; omega)]
    exact List.getElem_mem _)
  unfold bR at hb
  omega
/-! the same sums -/
theorem cntG_cg {f f' g g' : Nat → Int} {kd ch : Int} : ∀ (k i : Nat), (∀ j, j < i + k → f j = f' j ∧ g j = g' j) → cntG f g kd ch i k = cntG f' g' kd ch i k
  | 0, i, _ => rfl
  | k + 1, i, h => by
    simp only [cntG]
    rw [(h i (by omega)).1, (h i (by omega)).2, cntG_cg k (i + 1) (fun j hj => h j (by omega))]
theorem cntMd_cg {nm nm' : Nat → List Int} {sg sg' : Nat → Int} {mk : Int} : ∀ (k i : Nat), (∀ j, j < i + k → nm j = nm' j ∧ sg j = sg' j) → cntMd nm sg mk i k = cntMd nm' sg' mk i k
  | 0, i, _ => rfl
  | k + 1, i, h => by
    simp only [cntMd]
    rw [(h i (by omega)).1, (h i (by omega)).2, cntMd_cg k (i + 1) (fun j hj => h j (by omega))]
theorem excV_cg {dif dif' : Nat → Bool} {j : Int} : ∀ (k g : Nat) (c : Int), (∀ i, i < g + k → dif i = dif' i) → excV dif j k g c = excV dif' j k g c
  | 0, g, c, _ => rfl
  | k + 1, g, c, h => by
    simp only [excV]
    rw [h g (by omega), excV_cg k (g + 1) (c + 1) (fun i hi => h i (by omega)), excV_cg k (g + 1) c (fun i hi => h i (by omega))]
theorem alkV_cg {a a' b b' : Nat → List Int} : ∀ (k i : Nat), (∀ j, j < i + k → a j = a' j ∧ b j = b' j) → alkV a b k i = alkV a' b' k i
  | 0, i, _ => rfl
  | k + 1, i, h => by
    simp only [alkV]
    rw [(h i (by omega)).1, (h i (by omega)).2, alkV_cg k (i + 1) (fun j hj => h j (by omega))]
/-! a reading by the class -/
theorem rd_end {f : Nat → Int} {n : Nat} : ∀ (k : Nat) (s r : Nat → Int) (ts : List T5), (rdGo f n k s r ts).1 = 0 → (rdGo f n k s r ts).2.2.2.2 = true
  | 0, s, r, ts, h => absurd h (by simp [rdGo])
  | k + 1, s, r, ts, h => by
    simp only [rdGo] at h ⊢
    by_cases q8 : scS f n s 10 = 8
    · rw [if_pos q8] at h ⊢
      split <;> rfl
    · rw [if_neg q8] at h ⊢
      by_cases qv : stdV (scS f n s) r = 0
      · rw [if_pos qv] at h
        exact absurd h (by show ¬ (1 : Int) = 0; decide)
      · rw [if_neg qv] at h ⊢
        by_cases qt : tooB ts.length (stdS (scS f n s) r) = true
        · rw [if_pos qt] at h
          exact absurd h (by show ¬ (2 : Int) = 0; decide)
        · rw [if_neg qt] at h ⊢
          exact rd_end k _ _ _ h
variable {sp rd op s : Nat} {qs : Nat → Nat} {n : Nat} {hand : Int}
theorem staM_b (hb : sp ≠ qs 0) (hn : n ≤ 800) {k : Nat} (hk : k < n) (hs : s ≠ sp) : staM I sp (qs 0) s (n : Int) hand (qs 0) k = I s k := by
  have e : max 0 (min (n : Int) 800) = (n : Int) := by omega
  unfold staM
  rw [jput_a _ (Ne.symm hb), jput_a _ (Ne.symm hb), e, Int.toNat_natCast]
  unfold cpM
  rw [if_pos ⟨rfl, by omega, by omega⟩, show 0 + (k - 0) = k by omega, jput_a _ hs]
/-- a reading without FAULT into the spare object: it holds the TEXT -/
theorem rp_ct {g : Nat → Int} (hr : RdL E P rd op) (hx : TxL E P sp qs) (hq : TxD qs) (hqo : ∀ j, j ≤ 7 → qs j ≠ op) (hs : s ≠ sp) (hn : n ≤ 800) (hb : ∀ k, k < n → bR (I s k) (g k)) (hg : ∀ k, k < n → 0 ≤ g k ∧ g k ≤ 255) (hh : 0 ≤ hand ∧ hand ≤ 3) (h0 : (rpR I sp rd op s qs (n : Int) hand).1 = 0) :
    CT (rpM4 I sp rd op s qs (n : Int) hand) sp qs (n, g, hand, (rpR I sp rd op s qs (n : Int) hand).2.2.2.1, (rpR I sp rd op s qs (n : Int) hand).2.1 6) ∧ rpR I sp rd op s qs (n : Int) hand = rdGo g n 201 (rdS0 (staM I sp (qs 0) s (n : Int) hand rd)) (staM I sp (qs 0) s (n : Int) hand op) [] ∧ WX (n, g, hand, (rpR I sp rd op s qs (n : Int) hand).2.2.2.1, (rpR I sp rd op s qs (n : Int) hand).2.1 6) := by
  have hxq := hx.xq
  have q0 := hxq 0 (by decide)
  have hxr : sp ≠ rd := jne hx.1.2 hr.1.2 (by decide)
  have hxo : sp ≠ op := jne hx.1.2 hr.2.2.2.1 (by decide)
  have hqr : ∀ j, j ≤ 7 → qs j ≠ rd := fun j hj => by
    rcases hx.kq j hj with h | h
    · exact jne h hr.1.2 (by decide)
    · exact jne h hr.1.2 (by decide)
  have ef : ∀ k, k < n → staM I sp (qs 0) s (n : Int) hand (qs 0) k = I s k := fun k hk => staM_b q0 hn hk hs
  have eW : rpR I sp rd op s qs (n : Int) hand = rdGo g n 201 (rdS0 (staM I sp (qs 0) s (n : Int) hand rd)) (staM I sp (qs 0) s (n : Int) hand op) [] := by
    unfold rpR
    rw [Int.toNat_natCast]
    exact rdGo_cg (fun k hk => by rw [ef k hk]; exact hb k hk) 201 _ _ _
  generalize hW : rpR I sp rd op s qs (n : Int) hand = W at *
  have hend : W.2.2.2.2 = true := by rw [eW]; exact rd_end 201 _ _ _ (by rw [← eW]; exact h0)
  have hlen : W.2.2.2.1.length ≤ 200 := by rw [eW]; exact rdGo_len 201 _ _ [] (by decide)
  have hwt : WT g n W.2.2.2.1 := by rw [eW]; exact read_wt (by rw [← eW]; exact h0)
  have hWX : WX (n, g, hand, W.2.2.2.1, W.2.1 6) := ⟨hn, hg, hh, hlen, hwt⟩
  refine ⟨?_, eW, hWX⟩
  -- the memory ahead of the gaps
  have m2x : ∀ k, k ≠ 12 → k ≠ 11 → rpM2 I sp rd op s qs (n : Int) hand sp k = staM I sp (qs 0) s (n : Int) hand sp k := fun k h12 h11 => by
    unfold rpM2
    rw [rdRM_xk h12 hxr hxo, tkM_f hxq h11]
  have m2_11 : rpM2 I sp rd op s qs (n : Int) hand sp 11 = (W.2.2.2.1.length : Int) := by
    unfold rpM2
    rw [rdRM_xk (by decide) hxr hxo, tkM_n, hW]
  have m2_12 : rpM2 I sp rd op s qs (n : Int) hand sp 12 = W.2.1 6 := by
    unfold rpM2 rdRM
    rw [hW, if_pos hend, rdM_x hxr hxo, jput_s]
  have m2_q : ∀ j k, j ≤ 7 → rpM2 I sp rd op s qs (n : Int) hand (qs j) k = tkM (staM I sp (qs 0) s (n : Int) hand) sp qs W.2.2.2.1 (qs j) k := fun j k hj => by
    unfold rpM2
    rw [rdRM_q (hxq j hj) (hqr j hj) (hqo j hj), hW]
  have n06 : ∀ i j, i ≤ 7 → j ≤ 7 → i ≠ j → qs i ≠ qs j := fun i j h1 h2 h3 z => h3 (hq i j h1 h2 z)
  have m2_0 : ∀ k, k < n → rpM2 I sp rd op s qs (n : Int) hand (qs 0) k = I s k := fun k hk => by
    rw [m2_q 0 k (by decide), tkM_x (Ne.symm q0) (n06 0 1 (by decide) (by decide) (by decide)) (n06 0 2 (by decide) (by decide) (by decide)) (n06 0 3 (by decide) (by decide) (by decide)) (n06 0 4 (by decide) (by decide) (by decide)) (n06 0 5 (by decide) (by decide) (by decide)), ef k hk]
  have m2_9 : rpM2 I sp rd op s qs (n : Int) hand sp 9 = (n : Int) := by rw [m2x 9 (by decide) (by decide), staM_9 q0]; omega
  have m2_10 : rpM2 I sp rd op s qs (n : Int) hand sp 10 = hand := by
    rw [m2x 10 (by decide) (by decide)]
    unfold staM
    rw [jput_k _ (by decide), jput_s]
  have m2_t : ∀ k, k < W.2.2.2.1.length → rpM2 I sp rd op s qs (n : Int) hand (qs 1) k = (ti W.2.2.2.1 k).1 ∧ rpM2 I sp rd op s qs (n : Int) hand (qs 2) k = (ti W.2.2.2.1 k).2.1 ∧ rpM2 I sp rd op s qs (n : Int) hand (qs 3) k = (ti W.2.2.2.1 k).2.2.1 ∧ rpM2 I sp rd op s qs (n : Int) hand (qs 4) k = (ti W.2.2.2.1 k).2.2.2.1 ∧ rpM2 I sp rd op s qs (n : Int) hand (qs 5) k = (ti W.2.2.2.1 k).2.2.2.2 := fun k hk => by
    rw [m2_q 1 k (by decide), m2_q 2 k (by decide), m2_q 3 k (by decide), m2_q 4 k (by decide), m2_q 5 k (by decide), tkM_1 hxq hk, tkM_2 hxq hq hk, tkM_3 hxq hq hk, tkM_4 hxq hq hk, tkM_5 hxq hq hk]
    exact ⟨rfl, rfl, rfl, rfl, rfl⟩
  have e4x : ∀ k, k ≠ 8 → rpM4 I sp rd op s qs (n : Int) hand sp k = rpM2 I sp rd op s qs (n : Int) hand sp k := fun k hk => by
    unfold rpM4
    rw [jput_k _ hk, gapM_x (hxq 6 (by decide)) (hxq 7 (by decide))]
  have e4q : ∀ j k, j ≤ 5 → rpM4 I sp rd op s qs (n : Int) hand (qs j) k = rpM2 I sp rd op s qs (n : Int) hand (qs j) k := fun j k hj => by
    unfold rpM4
    rw [jput_a _ (Ne.symm (hxq j (by omega))), gapM_x (n06 j 6 (by omega) (by decide) (by omega)) (n06 j 7 (by omega) (by decide) (by omega))]
  refine ⟨⟨?_, ?_, ?_, ?_⟩, fun k hk => ?_, fun k hk => ?_, fun k hk => ?_⟩
  · rw [e4x 9 (by decide), m2_9]; rfl
  · rw [e4x 10 (by decide), m2_10]; rfl
  · rw [e4x 11 (by decide), m2_11]; rfl
  · rw [e4x 12 (by decide), m2_12]; rfl
  · rw [e4q 0 k (by decide), m2_0 k hk]
    exact hb k hk
  · rw [e4q 1 k (by decide), e4q 2 k (by decide), e4q 3 k (by decide), e4q 4 k (by decide), e4q 5 k (by decide)]
    exact m2_t k hk
  · have hk' : k + 1 < W.2.2.2.1.length := hk
    have a1 := m2_t k (by omega)
    have a2 := m2_t (k + 1) hk'
    have t1 := (hWX.tk (i := k) (by show k < W.2.2.2.1.length; omega)).1
    have t2 := (hWX.tk (i := k + 1) (by show k + 1 < W.2.2.2.1.length; omega)).1
    have ho := (hWX.or (i := k) hk).1
    unfold rpM4
    rw [jput_a _ (Ne.symm (hxq 6 (by decide))), jput_a _ (Ne.symm (hxq 7 (by decide))), hW]
    unfold gapM
    rw [if_pos ⟨rfl, by omega⟩, if_neg (fun z => n06 7 6 (by decide) (by decide) (by decide) z.1), if_pos ⟨rfl, by omega⟩, a1.2.2.1, a2.2.2.1, a1.2.1, a2.1, a2.2.2.2.1, m2_9]
    refine ⟨rfl, ?_⟩
    refine chB_cg ho (fun p h1 h2 => ?_)
    have hp0 : 0 ≤ p ∧ p < (n : Int) := by
      have e1 : xEn (n, g, hand, W.2.2.2.1, W.2.1 6) k = (ti W.2.2.2.1 k).2.1 := rfl
      have e2 : xSt (n, g, hand, W.2.2.2.1, W.2.1 6) (k + 1) = (ti W.2.2.2.1 (k + 1)).1 := rfl
      have e3 : xN (n, g, hand, W.2.2.2.1, W.2.1 6) = n := rfl
      omega
    have hbb := hb p.toNat (by omega)
    unfold tByte
    rw [if_pos hp0, m2_0 _ (by omega)]
    show (I s p.toNat = 32 ↔ g p.toNat = 32) ∧ (I s p.toNat = 10 ↔ g p.toNat = 10)
    unfold bR at hbb
    omega
end JCT
