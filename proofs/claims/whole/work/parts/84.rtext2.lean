section JRW2
variable {E : jE} {I : jI} {P : jP} {d m t : Nat} {a : Nat → Nat} {x : TX} {h0 r0 : Nat → Int}
/-- the reference's tape over a memory -/
def tpR (I : jI) (m : Nat) (a : Nat → Nat) (l : List Int) : jI := fun b k => if b = m ∧ k = 2 then (l.length : Int) else if b = a 1 ∧ k < l.length then l.getD k 0 else I b k
theorem tpR_2 {l : List Int} : tpR I m a l m 2 = (l.length : Int) := by simp [tpR]
theorem tpR_app {l : List Int} {v : Int} (h : a 1 ≠ m) : jput (jput (tpR I m a l) (a 1) l.length v) m 2 ((l.length : Int) + 1) = tpR I m a (l ++ [v]) := by
  funext b k
  simp only [jput, tpR]
  by_cases hb : b = m
  · subst hb
    by_cases h2 : k = 2
    · subst h2; simp
    · simp [h2, Ne.symm h]
  · simp only [hb, false_and, if_false]
    by_cases hr : b = a 1
    · subst hr
      simp only [true_and]
      by_cases hk : k = l.length
      · subst hk; simp
      · by_cases hk2 : k < l.length
        · simp [hk, hk2, Nat.lt_succ_of_lt hk2, List.getD_eq_getElem?_getD, List.getElem?_append_left hk2]
        · have : ¬ k < l.length + 1 := by omega
          simp [hk, hk2, this]
    · simp [hr]
def u4 (v : Int) : List Int := [jAnd (jShr v 24) 255, jAnd (jShr v 16) 255, jAnd (jShr v 8) 255, jAnd (jShr v 0) 255]
theorem lays_step {Z : Code → List Frame → Array Value → State → State → Prop} {v sh : Int} {l : List Int} (hR : RfL E P m a) (hl : l.length < 800) (hs : 0 ≤ sh ∧ sh ≤ 100) (kk : jJ E yX7_lays.cls cX7_lays 3 none (jRm d) Z 0 0 3 [some (jp m), some (ji v), some (ji (sh + -8))] [] (tpR I m a (l ++ [jAnd (jShr v sh) 255])) P) : jJ E yX7_lays.cls cX7_lays 3 none (jRm d) Z 0 0 3 [some (jp m), some (ji v), some (ji sh)] [] (tpR I m a l) P := by
  have n1 := hR.n1
  refine jJ_iload_n (pc := 3) dX7_lays_3 rfl ?_
  refine jJ_if_lt (pc := 4) (tgt := 39) dX7_lays_4 (by decide) (fun c4 => ?_) (fun c4 => ?_)
  · exfalso
    omega
  · refine jJ_aload_n (pc := 7) dX7_lays_7 rfl ?_
    refine jJ_getr (pc := 8) dX7_lays_8 fX7_7 rfl hR.1 hR.p1 ?_
    try simp only [tpR_2]
    refine jJ_aload_n (pc := 11) dX7_lays_11 rfl ?_
    refine jJ_geti (pc := 12) dX7_lays_12 fX7_81 rfl hR.1 ?_
    try simp only [tpR_2]
    refine jJ_iload_n (pc := 15) dX7_lays_15 rfl ?_
    refine jJ_iload_n (pc := 16) dX7_lays_16 rfl ?_
    refine jJ_ishr (pc := 17) dX7_lays_17 ?_
    refine jJ_sipush (pc := 18) dX7_lays_18 (by decide) ?_
    refine jJ_iand (pc := 21) dX7_lays_21 ?_
    refine jJ_iast (pc := 22) dX7_lays_22 hR.a1 ⟨by omega, by omega⟩ ?_
    try simp only [tpR_2]
    refine jJ_aload_n (pc := 23) dX7_lays_23 rfl ?_
    refine jJ_dup (pc := 24) dX7_lays_24 rfl ?_
    refine jJ_geti (pc := 25) dX7_lays_25 fX7_81 rfl hR.1 ?_
    try simp only [jput_a _ (Ne.symm n1), tpR_2]
    refine jJ_iconst (pc := 28) dX7_lays_28 (by decide) ?_
    refine jJ_iadd (pc := 29) dX7_lays_29 ⟨by omega, by omega⟩ ?_
    refine jJ_puti (pc := 30) dX7_lays_30 fX7_81w rfl ⟨rfl, rfl⟩ hR.1 ?_
    try simp only [jput_a _ (Ne.symm n1), tpR_2]
    rw [Int.toNat_natCast]
    refine jJ_I (tpR_app n1) ?_
    refine jJ_iinc (pc := 33) (ls' := [_, _, _]) dX7_lays_33 rfl ⟨by omega, by omega⟩ rfl ?_
    refine jJ_goto (pc := 36) (tgt := 3) dX7_lays_36 (by decide) ?_
    exact kk
theorem x_lays {v : Int} {l : List Int} (hR : RfL E P m a) (hl : l.length + 4 ≤ 800) : jC E yX7_lays cX7_lays 3 none d [jp m, ji v] (tpR I m a l) P (jD none (tpR I m a (l ++ u4 v)) P) := by
  refine jC_intro (by decide +kernel) (by simp [jc, va_rf, Value.category]) (Nat.le_of_ble_eq_true rfl) ?_
  refine jJ_bipush (pc := 0) dX7_lays_0 (by decide) ?_
  refine jJ_istore_n (pc := 2) (ls' := [_, _, _]) dX7_lays_2 (Nat.le_of_ble_eq_true rfl) rfl ?_
  refine lays_step hR (by omega) (by decide) (lays_step hR (by simp; omega) (by decide) (lays_step hR (by simp; omega) (by decide) (lays_step hR (by simp; omega) (by decide) ?_)))
  refine jJ_iload_n (pc := 3) dX7_lays_3 rfl ?_
  refine jJ_if_lt (pc := 4) (tgt := 39) dX7_lays_4 (by decide) (fun c4 => ?_) (fun c4 => ?_)
  · refine jJ_vret (pc := 39) dX7_lays_39 rfl ?_
    exact ⟨rfl, by simp [u4, List.append_assoc], rfl⟩
  · exfalso
    omega
def u20 (v w x y z : Int) : List Int := u4 v ++ u4 w ++ u4 x ++ u4 y ++ u4 z
theorem r_feed {v w x y z : Int} {l : List Int} (hR : RfL E P m a) (hl : l.length ≤ 800) (hd : 1 ≤ d) : jC E yX7_feed cX7_feed 6 (some .int) d [jp m, ji v, ji w, ji x, ji y, ji z] (tpR I m a l) P (jD (some (ji (if 800 < (l.length : Int) + 20 then -1 else (l.length : Int) + 20))) (tpR (jput I m 0 0) m a (if 800 < (l.length : Int) + 20 then l else l ++ u20 v w x y z)) P) := by
  have e0 : jput (tpR I m a l) m 0 0 = tpR (jput I m 0 0) m a l := by
    funext b k
    simp only [jput, tpR]
    by_cases hb : b = m
    · subst hb
      by_cases hk : k = 0
      · subst hk; simp [Ne.symm hR.n1]
      · simp [hk]
    · simp [hb]
  refine jC_intro (by decide +kernel) (by simp [jc, va_rf, Value.category]) (Nat.le_of_ble_eq_true rfl) ?_
  refine jJ_aload_n (pc := 0) dX7_feed_0 rfl ?_
  refine jJ_iconst (pc := 1) dX7_feed_1 (by decide) ?_
  refine jJ_puti (pc := 2) dX7_feed_2 fX7_78w rfl ⟨rfl, rfl⟩ hR.1 ?_
  rw [e0]
  refine jJ_aload_n (pc := 5) dX7_feed_5 rfl ?_
  refine jJ_geti (pc := 6) dX7_feed_6 fX7_81 rfl hR.1 ?_
  try simp only [tpR_2]
  refine jJ_bipush (pc := 9) dX7_feed_9 (by decide) ?_
  refine jJ_iadd (pc := 11) dX7_feed_11 ⟨by omega, by omega⟩ ?_
  refine jJ_sipush (pc := 12) dX7_feed_12 (by decide) ?_
  refine jJ_icmp_le (pc := 15) (tgt := 20) dX7_feed_15 (by decide) (fun c15 => ?_) (fun c15 => ?_)
  · rw [if_neg (by omega), if_neg (by omega)]
    refine jJ_aload_n (pc := 20) dX7_feed_20 rfl ?_
    refine jJ_iload_n (pc := 21) dX7_feed_21 rfl ?_
    refine jJ_callVd (pc := 22) (as := [_]) dX7_feed_22 mX7_84 (jRcv_of hR.1 rfl rfl) (Nat.le_of_ble_eq_true rfl) (jRm_ok (by omega) (by decide)) (x_lays (d := d - 1) hR (by omega)) ?_
    refine jJ_aload_n (pc := 25) dX7_feed_25 rfl ?_
    refine jJ_iload_n (pc := 26) dX7_feed_26 rfl ?_
    refine jJ_callVd (pc := 27) (as := [_]) dX7_feed_27 mX7_84 (jRcv_of hR.1 rfl rfl) (Nat.le_of_ble_eq_true rfl) (jRm_ok (by omega) (by decide)) (x_lays (d := d - 1) hR (by simp [u4]; omega)) ?_
    refine jJ_aload_n (pc := 30) dX7_feed_30 rfl ?_
    refine jJ_iload_n (pc := 31) dX7_feed_31 rfl ?_
    refine jJ_callVd (pc := 32) (as := [_]) dX7_feed_32 mX7_84 (jRcv_of hR.1 rfl rfl) (Nat.le_of_ble_eq_true rfl) (jRm_ok (by omega) (by decide)) (x_lays (d := d - 1) hR (by simp [u4]; omega)) ?_
    refine jJ_aload_n (pc := 35) dX7_feed_35 rfl ?_
    refine jJ_iload (pc := 36) dX7_feed_36 rfl ?_
    refine jJ_callVd (pc := 38) (as := [_]) dX7_feed_38 mX7_84 (jRcv_of hR.1 rfl rfl) (Nat.le_of_ble_eq_true rfl) (jRm_ok (by omega) (by decide)) (x_lays (d := d - 1) hR (by simp [u4]; omega)) ?_
    refine jJ_aload_n (pc := 41) dX7_feed_41 rfl ?_
    refine jJ_iload (pc := 42) dX7_feed_42 rfl ?_
    refine jJ_callVd (pc := 44) (as := [_]) dX7_feed_44 mX7_84 (jRcv_of hR.1 rfl rfl) (Nat.le_of_ble_eq_true rfl) (jRm_ok (by omega) (by decide)) (x_lays (d := d - 1) hR (by simp [u4]; omega)) ?_
    refine jJ_aload_n (pc := 47) dX7_feed_47 rfl ?_
    refine jJ_geti (pc := 48) dX7_feed_48 fX7_81 rfl hR.1 ?_
    try simp only [tpR_2]
    refine jJ_iret (pc := 51) dX7_feed_51 rfl ?_
    exact ⟨by simp [u4], by simp only [u20, List.append_assoc], rfl⟩
  · rw [if_pos (by omega), if_pos (by omega)]
    refine jJ_iconst (pc := 18) dX7_feed_18 (by decide) ?_
    refine jJ_iret (pc := 19) dX7_feed_19 rfl ?_
    exact ⟨rfl, rfl, rfl⟩
/-- what a reading of W leaves of the TEXTS -/
def rdP (I : jI) (m : Nat) (a : Nat → Nat) (t : Nat) (W : RdRes) (x : TX) (I' : jI) : Prop := (∀ b, b ≠ m → (∀ j, 5 ≤ j → j ≤ 15 → b ≠ a j) → I' b = I b) ∧ (W.1 = 0 → RT I' a t x ∧ I' (a 5) t = 1) ∧ (W.1 ≠ 0 → I' (a 5) t = I (a 5) t ∧ ∀ y, WX y → RT I a t y → RT I' a t y) ∧ ∀ u, u < 12 → u ≠ t → I' (a 5) u = I (a 5) u ∧ ∀ y, WX y → RT I a u y → RT I' a u y
theorem rdP.pm {I' : jI} {W : RdRes} {k : Nat} {v : Int} (h : rdP I m a t W x I') (hR : RfL E P m a) : rdP I m a t W x (jput I' m k v) := by
  obtain ⟨h1, h2, h3, h4⟩ := h
  have e5 : jput I' m k v (a 5) = I' (a 5) := jput_row hR.n5
  have er : ∀ j, 6 ≤ j → j ≤ 15 → jput I' m k v (a j) = I' (a j) := fun j p q => jput_row (hR.nm (rfK_515 j (by omega) q))
  refine ⟨fun b p q => by rw [← h1 b p q]; funext j; exact jput_a _ p, fun z => ⟨(h2 z).1.cg er, by rw [e5]; exact (h2 z).2⟩, fun z => ⟨by rw [e5]; exact (h3 z).1, fun y p q => ((h3 z).2 y p q).cg er⟩, fun u p q => ⟨by rw [e5]; exact (h4 u p q).1, fun y p' q' => ((h4 u p q).2 y p' q').cg er⟩⟩
/-- the bytes to be read are copied: k of a row -/
def cbM (I : jI) (a : Nat → Nat) (b k : Nat) : jI := cpM I b (a 6) 0 9600 k
theorem cbM_s {b k : Nat} (hb : b ≠ a 6) : jput (cbM I a b k) (a 6) (9600 + k) (I b k) = cbM I a b (k + 1) := by
  funext c j
  simp only [jput, cbM, cpM]
  by_cases h : c = a 6
  · subst h
    by_cases q : j = 9600 + k
    · subst q; simp
    · simp only [true_and, q, if_false]
      by_cases q2 : 9600 ≤ j ∧ j < 9600 + k
      · rw [if_pos q2, if_pos (by omega)]
      · rw [if_neg q2, if_neg (by omega)]
  · simp [h]
theorem cbM_x {b c k : Nat} (h : c ≠ a 6) : cbM I a b k c = I c := by funext j; simp [cbM, cpM, h]
theorem cbM_g {b k j : Nat} (hj : j < k) : gB (cbM I a b k) a j = I b j := by
  unfold gB cbM cpM
  rw [if_pos ⟨rfl, by omega, by omega⟩, show 0 + (9600 + j - 9600) = j by omega]
/-- setting up a reading changes no TEXT -/
theorem cb_rt {b k u : Nat} {v : Int} {y : TX} (hR : RfL E P m a) (hu : u < 12) (hW : WX y) (h : RT I a u y) : RT (cbM (jput I (a 7) 12 v) a b k) a u y := by
  obtain ⟨h7, h8, h9, h10, h6, hk⟩ := h
  have d1 : ∀ {i j : Nat}, i ∈ rfK → j ∈ rfK → i ≠ j → a i ≠ a j := fun h1 h2 h3 => hR.d h1 h2 h3
  have row : ∀ j, j ∈ rfK → j ≠ 6 → j ≠ 7 → cbM (jput I (a 7) 12 v) a b k (a j) = I (a j) := fun j hj h1 h2 => by rw [cbM_x (d1 hj (by decide) h1)]; exact jput_row (d1 hj (by decide) h2)
  have hn := hW.1
  refine ⟨?_, by rw [row 8 (by decide) (by decide) (by decide)]; exact h8, by rw [row 9 (by decide) (by decide) (by decide)]; exact h9, by rw [row 10 (by decide) (by decide) (by decide)]; exact h10, fun j hj => ?_, fun j hj => ?_⟩
  · rw [cbM_x (d1 (by decide) (by decide) (by decide)), jput_k _ (by omega)]; exact h7
  · unfold cbM cpM
    rw [if_neg (by omega), jput_a _ (d1 (by decide) (by decide) (by decide))]
    exact h6 j hj
  · rw [row 11 (by decide) (by decide) (by decide), row 12 (by decide) (by decide) (by decide), row 13 (by decide) (by decide) (by decide), row 14 (by decide) (by decide) (by decide), row 15 (by decide) (by decide) (by decide)]
    exact hk j hj
/-- what reads() leaves, by what was set up -/
theorem reads_P {J I' : jI} {n b k : Nat} {v : Int} {hand : Int} {W : RdRes} {vv : Option jV} {P' : jP} (hR : RfL E P m a) (ht : t < 12) (hn : n ≤ 800) (hlen : W.2.2.2.1.length ≤ 200) (hJ : J = cbM (jput I (a 7) 12 v) a b k) (h : rdQ J m a P n t hand W vv I' P') :
    rdP I m a t W (n, gB J a, hand, W.2.2.2.1, W.2.1 6) I' ∧ (∀ k, ¬ (k = 3 ∨ k = 4 ∨ (22 ≤ k ∧ k ≤ 27)) → I' m k = I m k) ∧ I' m 3 = (if W.1 = 0 then I m 3 else if I m 3 = 0 then W.1 else I m 3) ∧ I' m 4 = (if W.1 = 0 then I m 4 else if I m 3 = 0 then W.2.1 7 else I m 4) ∧ vv = some (ji (jb (W.1 = 0))) ∧ P' = P := by
  have d1 : ∀ {i j : Nat}, i ∈ rfK → j ∈ rfK → i ≠ j → a i ≠ a j := fun h1 h2 h3 => hR.d h1 h2 h3
  have em : ∀ k, J m k = I m k := fun k => by rw [hJ, cbM_x (Ne.symm hR.n6), jput_a _ (Ne.symm hR.n7)]
  have e5 : J (a 5) = I (a 5) := by rw [hJ, cbM_x (d1 (by decide) (by decide) (by decide))]; exact jput_row (d1 (by decide) (by decide) (by decide))
  have eo : ∀ b, b ≠ m → (∀ j, 5 ≤ j → j ≤ 15 → b ≠ a j) → J b = I b := fun b p q => by rw [hJ, cbM_x (q 6 (by decide) (by decide))]; exact jput_row (q 7 (by decide) (by decide))
  have rt : ∀ u y, u < 12 → WX y → RT I a u y → RT J a u y := fun u y p q r => by rw [hJ]; exact cb_rt hR p q r
  obtain ⟨hP, ⟨rfl, h0, σ, s3, s4, s10, rfl⟩ | ⟨rfl, σ, tf, ⟨g1, g3, g4⟩, rfl⟩⟩ := h
  · obtain ⟨p1, p2, p3⟩ := rdF_rt (I := J) (n := n) (t := t) (hand := hand) (σ := σ) (ts := W.2.2.2.1) hR ht hlen hn
    rw [s10] at p1
    refine ⟨⟨fun b p q => (rdF_o p q).trans (eo b p q), fun _ => ⟨p1, p2⟩, fun z => absurd h0 z, fun u p q => ⟨((p3 u p q).1).trans (by rw [e5]), fun y w r => (p3 u p q).2 y w (rt u y p w r)⟩⟩, fun k hk => ?_, ?_, ?_, by rw [← jb_t h0], hP⟩
    · rw [rdF_m hR, rfM_fm hR hk, em]
    · rw [rdF_m hR, rfM_g3, s3, em, if_pos h0]
    · rw [rdF_m hR, rfM_g4, s4, em, if_pos h0]
  · refine ⟨⟨fun b p q => ?_, fun z => absurd z g1, fun _ => ⟨?_, fun y w r => rfM_rt hR ht w (rt t y ht w r)⟩, fun u p q => ⟨?_, fun y w r => rfM_rt hR p w (rt u y p w r)⟩⟩, fun k hk => ?_, ?_, ?_, by rw [← jb_f g1], hP⟩
    · rw [rfM_x p (q 9 (by decide) (by decide)) (q 10 (by decide) (by decide)) (q 11 (by decide) (by decide)) (q 12 (by decide) (by decide)) (q 13 (by decide) (by decide)) (q 14 (by decide) (by decide)) (q 15 (by decide) (by decide))]; exact eo b p q
    · rw [rfM_row hR (by decide) (by decide), e5]
    · rw [rfM_row hR (by decide) (by decide), e5]
    · rw [rfM_fm hR hk, em]
    · rw [rfM_g3, g3, em, if_neg g1]
    · rw [rfM_g4, g4, em, em, if_neg g1]
/-- the TOKENS of a reading are at most 200, if it finds no FAULT -/
theorem rdGo_len {f : Nat → Int} {n : Nat} : ∀ (k : Nat) (s r : Nat → Int) (ts : List T5), ts.length ≤ 200 → (rdGo f n k s r ts).2.2.2.1.length ≤ 200
  | 0, s, r, ts, h => by simpa [rdGo] using h
  | k + 1, s, r, ts, h => by
    simp only [rdGo]
    split
    · split <;> exact h
    · split
      · exact h
      · split
        · exact h
        · next q =>
          refine rdGo_len k _ _ _ ?_
          rw [len_app]
          have : ¬ (200 ≤ (ts.length : Int) ∨ stdS (scS f n s) r 3 ≠ 0 ∨ (stdS (scS f n s) r 10 = 1 ∧ 16 < stdS (scS f n s) r 9 - stdS (scS f n s) r 8) ∨ (stdS (scS f n s) r 10 = 2 ∧ 6 < stdS (scS f n s) r 9 - stdS (scS f n s) r 8)) := fun z => q (by unfold tooB; exact decide_eq_true z)
          omega
theorem text_cp {Z : Code → List Frame → Array Value → State → State → Prop} {t' hand : Int} {n : Nat} (hR : RfL E P m a) (hn : n ≤ 800) (kk : jJ E yX7_text.cls cX7_text 5 (some .int) (jRm d) Z 0 0 104 [some (jp m), some (ji t'), some (ji hand), some (ji (n : Int)), some (ji (n : Int))] [] (cbM I a (a 1) n) P) :
    ∀ (r k : Nat), k + r = n → jJ E yX7_text.cls cX7_text 5 (some .int) (jRm d) Z 0 0 74 [some (jp m), some (ji t'), some (ji hand), some (ji (n : Int)), some (ji (k : Int))] [] (cbM I a (a 1) k) P := by
  have x1 : a 1 ≠ a 6 := hR.d (by decide) (by decide) (by decide)
  intro r
  induction r with
  | zero =>
    intro k hk
    refine jJ_iload (pc := 74) dX7_text_74 rfl ?_
    refine jJ_iload_n (pc := 76) dX7_text_76 rfl ?_
    refine jJ_icmp_ge (pc := 77) (tgt := 104) dX7_text_77 (by decide) (fun c77 => ?_) (fun c77 => ?_)
    · rw [show k = n by omega]
      exact kk
    · exfalso
      omega
  | succ r ih =>
    intro k hk
    refine jJ_iload (pc := 74) dX7_text_74 rfl ?_
    refine jJ_iload_n (pc := 76) dX7_text_76 rfl ?_
    refine jJ_icmp_ge (pc := 77) (tgt := 104) dX7_text_77 (by decide) (fun c77 => ?_) (fun c77 => ?_)
    · exfalso
      omega
    · refine jJ_aload_n (pc := 80) dX7_text_80 rfl ?_
      refine jJ_getr (pc := 81) dX7_text_81 fX7_21 rfl hR.1 hR.p6 ?_
      try simp only [cbM_x x1]
      refine jJ_sipush (pc := 84) dX7_text_84 (by decide) ?_
      refine jJ_iload (pc := 87) dX7_text_87 rfl ?_
      refine jJ_iadd (pc := 89) dX7_text_89 ⟨by omega, by omega⟩ ?_
      refine jJ_aload_n (pc := 90) dX7_text_90 rfl ?_
      refine jJ_getr (pc := 91) dX7_text_91 fX7_7 rfl hR.1 hR.p1 ?_
      try simp only [cbM_x x1]
      refine jJ_iload (pc := 94) dX7_text_94 rfl ?_
      refine jJ_iald (pc := 96) dX7_text_96 hR.a1 ⟨by omega, by omega⟩ ?_
      try simp only [cbM_x x1]
      refine jJ_iast (pc := 97) dX7_text_97 hR.a6 ⟨by omega, by omega⟩ ?_
      try simp only [cbM_x x1]
      rw [show (9600 + (k : Int)).toNat = 9600 + k by omega, Int.toNat_natCast, cbM_s x1]
      refine jJ_iinc (pc := 98) (ls' := [_, _, _, _, _]) dX7_text_98 rfl ⟨by omega, by omega⟩ rfl ?_
      refine jJ_goto (pc := 101) (tgt := 74) dX7_text_101 (by decide) ?_
      exact ih (k + 1) (by omega)
/-- what comes of text(): the reading W of n bytes g -/
def txQ (I : jI) (m : Nat) (a : Nat → Nat) (t n : Nat) (hand : Int) (g : Nat → Int) (W : RdRes) (v : Option jV) (I' : jI) : Prop := v = some (ji W.1) ∧ rdP I m a t W (n, g, hand, W.2.2.2.1, W.2.1 6) I' ∧ (∀ k, ¬ (k = 0 ∨ k = 2 ∨ k = 3 ∨ k = 4 ∨ k = 21 ∨ (22 ≤ k ∧ k ≤ 27)) → I' m k = I m k) ∧ I' m 0 = 0 ∧ I' m 2 = 0 ∧ I' m 3 = W.1 ∧ I' m 4 = (if W.1 = 0 then -1 else W.2.1 7) ∧ I' m 21 = (if W.1 = 0 ∧ I m 21 = (t : Int) then -1 else I m 21)
theorem r_text {t hand n : Int} {l : List Int} (hR : RfL E P m a) (h2 : I m 2 = (l.length : Int)) (hl : l.length ≤ 800) (hk : ∀ k, k < l.length → I (a 1) k = l.getD k 0) (hb : ∀ k, k < l.length → 0 ≤ l.getD k 0 ∧ l.getD k 0 ≤ 255) (hd : 38 ≤ d) :
    jC E yX7_text cX7_text 5 (some .int) d [jp m, ji t, ji hand, ji n] I P (fun v I' P' => P' = P ∧ ((¬ ((0 ≤ t ∧ t < 12) ∧ (0 ≤ hand ∧ hand ≤ 3) ∧ 0 ≤ n ∧ n ≤ (l.length : Int)) ∧ v = some (ji 0) ∧ I' = jput I m 0 1) ∨ (((0 ≤ t ∧ t < 12) ∧ (0 ≤ hand ∧ hand ≤ 3) ∧ 0 ≤ n ∧ n ≤ (l.length : Int)) ∧ ∃ g : Nat → Int, (∀ k, k < n.toNat → g k = l.getD k 0) ∧ txQ I m a t.toNat n.toNat hand g (rdGo g n.toNat 201 (rdS0 h0) r0 []) v I'))) := by
  have k48 : ((0 ≤ t ∧ t < 12) ∧ (0 ≤ hand ∧ hand ≤ 3) ∧ 0 ≤ n ∧ n ≤ (l.length : Int)) → jJ E yX7_text.cls cX7_text 5 (some .int) (jRm d) (jZ E (fun v I' P' => P' = P ∧ ((¬ ((0 ≤ t ∧ t < 12) ∧ (0 ≤ hand ∧ hand ≤ 3) ∧ 0 ≤ n ∧ n ≤ (l.length : Int)) ∧ v = some (ji 0) ∧ I' = jput I m 0 1) ∨ (((0 ≤ t ∧ t < 12) ∧ (0 ≤ hand ∧ hand ≤ 3) ∧ 0 ≤ n ∧ n ≤ (l.length : Int)) ∧ ∃ g : Nat → Int, (∀ k, k < n.toNat → g k = l.getD k 0) ∧ txQ I m a t.toNat n.toNat hand g (rdGo g n.toNat 201 (rdS0 h0) r0 []) v I')))) 0 0 48 [some (jp m), some (ji t), some (ji hand), some (ji n), none] [] (jput I m 0 0) P := by
    intro hg
    obtain ⟨t', rfl⟩ : ∃ t' : Nat, t = (t' : Int) := ⟨t.toNat, by omega⟩
    obtain ⟨n', rfl⟩ : ∃ n' : Nat, n = (n' : Int) := ⟨n.toNat, by omega⟩
    rw [Int.toNat_natCast, Int.toNat_natCast]
    have ht : t' < 12 := by omega
    have hn : n' ≤ 800 := by omega
    refine jJ_aload_n (pc := 48) dX7_text_48 rfl ?_
    refine jJ_iconst (pc := 49) dX7_text_49 (by decide) ?_
    refine jJ_puti (pc := 50) dX7_text_50 fX7_81w rfl ⟨rfl, rfl⟩ hR.1 ?_
    refine jJ_aload_n (pc := 53) dX7_text_53 rfl ?_
    refine jJ_iconst (pc := 54) dX7_text_54 (by decide) ?_
    refine jJ_puti (pc := 55) dX7_text_55 fX7_119w rfl ⟨rfl, rfl⟩ hR.1 ?_
    refine jJ_aload_n (pc := 58) dX7_text_58 rfl ?_
    refine jJ_iconst (pc := 59) dX7_text_59 (by decide) ?_
    refine jJ_puti (pc := 60) dX7_text_60 fX7_13w rfl ⟨rfl, rfl⟩ hR.1 ?_
    refine jJ_aload_n (pc := 63) dX7_text_63 rfl ?_
    refine jJ_getr (pc := 64) dX7_text_64 fX7_24 rfl hR.1 hR.p7 ?_
    refine jJ_bipush (pc := 67) dX7_text_67 (by decide) ?_
    refine jJ_iload_n (pc := 69) dX7_text_69 rfl ?_
    refine jJ_iast (pc := 70) dX7_text_70 hR.a7 ⟨by omega, by omega⟩ ?_
    refine jJ_iconst (pc := 71) dX7_text_71 (by decide) ?_
    refine jJ_istore (pc := 72) (ls' := [_, _, _, _, _]) dX7_text_72 (Nat.le_of_ble_eq_true rfl) rfl ?_
    refine jJ_I (show _ = cbM (jput (jput (jput (jput (jput I m 0 0) m 2 0) m 3 0) m 4 (-1)) (a 7) 12 (n' : Int)) a (a 1) 0 by funext c j; simp only [cbM, cpM]; rw [if_neg (by omega)]; rfl) ?_
    generalize hI1 : jput (jput (jput (jput I m 0 0) m 2 0) m 3 0) m 4 (-1) = I1
    have i1m : ∀ k, k ≠ 0 → k ≠ 2 → k ≠ 3 → k ≠ 4 → I1 m k = I m k := fun k q0 q2 q3 q4 => by rw [← hI1, jput_k _ q4, jput_k _ q3, jput_k _ q2, jput_k _ q0]
    have i10 : I1 m 0 = 0 := by rw [← hI1, jput_k _ (by decide), jput_k _ (by decide), jput_k _ (by decide), jput_s]
    have i12 : I1 m 2 = 0 := by rw [← hI1, jput_k _ (by decide), jput_k _ (by decide), jput_s]
    have i13 : I1 m 3 = 0 := by rw [← hI1, jput_k _ (by decide), jput_s]
    have i14 : I1 m 4 = -1 := by rw [← hI1, jput_s]
    have i1o : ∀ b, b ≠ m → I1 b = I b := fun b q => by rw [← hI1]; funext j; rw [jput_a _ q, jput_a _ q, jput_a _ q, jput_a _ q]
    have x1 : a 1 ≠ a 6 := hR.d (by decide) (by decide) (by decide)
    have x17 : a 1 ≠ a 7 := hR.d (by decide) (by decide) (by decide)
    refine text_cp hR hn ?_ n' 0 (by omega)
    have hgB : ∀ k, k < n' → gB (cbM (jput I1 (a 7) 12 (n' : Int)) a (a 1) n') a k = l.getD k 0 := fun k hk' => by
      rw [cbM_g hk', jput_a _ x17, i1o _ hR.n1]
      exact hk k (by omega)
    have e7 : cbM (jput I1 (a 7) 12 (n' : Int)) a (a 1) n' (a 7) 12 = (n' : Int) := by
      rw [cbM_x (hR.d (by decide) (by decide) (by decide)), jput_s]
    generalize hJ : cbM (jput I1 (a 7) 12 (n' : Int)) a (a 1) n' = J at *
    refine jJ_aload_n (pc := 104) dX7_text_104 rfl ?_
    refine jJ_iload_n (pc := 105) dX7_text_105 rfl ?_
    refine jJ_iload_n (pc := 106) dX7_text_106 rfl ?_
    refine jJ_callV (pc := 107) (as := [_, _]) dX7_text_107 mX7_212 (jRcv_of hR.1 rfl rfl) (Nat.le_of_ble_eq_true rfl) (jRm_ok (by omega) (by decide)) (r_reads (d := d - 1) (h0 := h0) (r0 := r0) hR e7 hn (fun k hk' => by rw [hgB k hk']; exact hb k (by omega)) ht (by omega)) ?_
    intro v J' P' hq
    obtain ⟨pp, pm, p3, p4, pv, rfl⟩ := reads_P (I := I1) (b := a 1) (k := n') (v := (n' : Int)) hR ht hn (rdGo_len 201 _ _ [] (by decide)) hJ.symm hq
    rw [pv]
    rw [i13] at p3 p4
    rw [i14] at p4
    have hrd : rdP I m a t' (rdGo (gB J a) n' 201 (rdS0 h0) r0 []) (n', gB J a, hand, (rdGo (gB J a) n' 201 (rdS0 h0) r0 []).2.2.2.1, (rdGo (gB J a) n' 201 (rdS0 h0) r0 []).2.1 6) J' := by
      obtain ⟨q1, q2, q3, q4⟩ := pp
      have e5 : I1 (a 5) = I (a 5) := i1o _ hR.n5
      have er : ∀ j, 6 ≤ j → j ≤ 15 → I1 (a j) = I (a j) := fun j p q => i1o _ (hR.nm (rfK_515 j (by omega) q))
      exact ⟨fun b p q => (q1 b p q).trans (i1o b p), q2, fun z => ⟨by rw [(q3 z).1, e5], fun y p q => (q3 z).2 y p (q.cg er)⟩, fun u p q => ⟨by rw [(q4 u p q).1, e5], fun y p' q' => (q4 u p q).2 y p' (q'.cg er)⟩⟩
    generalize hWd : rdGo (gB J a) n' 201 (rdS0 h0) r0 [] = W at *
    have p3' : J' m 3 = W.1 := by rw [p3, if_pos rfl]; by_cases q : W.1 = 0; rw [if_pos q, q]; rw [if_neg q]
    have p4' : J' m 4 = (if W.1 = 0 then -1 else W.2.1 7) := by rw [p4, if_pos rfl]
    have e21 : J' m 21 = I m 21 := by rw [pm 21 (by decide), i1m 21 (by decide) (by decide) (by decide) (by decide)]
    have fin : J' m 21 ≠ (t' : Int) ∨ W.1 ≠ 0 → txQ I m a t' n' hand (gB J a) W (some (ji W.1)) J' := by
      intro hc
      refine ⟨rfl, hrd, fun k hk' => ?_, by rw [pm 0 (by decide), i10], by rw [pm 2 (by decide), i12], p3', p4', ?_⟩
      · rw [pm k (by omega), i1m k (by omega) (by omega) (by omega) (by omega)]
      · rw [e21, if_neg (by rw [e21] at hc; omega)]
    refine jJ_if_eq (pc := 110) (tgt := 126) dX7_text_110 (by decide) (fun c110 => ?_) (fun c110 => ?_)
    · simp only [jb_z] at c110
      refine jJ_aload_n (pc := 126) dX7_text_126 rfl ?_
      refine jJ_geti (pc := 127) dX7_text_127 fX7_119 rfl hR.1 ?_
      try simp only [p3']
      refine jJ_iret (pc := 130) dX7_text_130 rfl ?_
      exact ⟨rfl, Or.inr ⟨hg, gB J a, hgB, by rw [hWd]; exact fin (Or.inr c110)⟩⟩
    · simp only [jb_nz] at c110
      refine jJ_aload_n (pc := 113) dX7_text_113 rfl ?_
      refine jJ_geti (pc := 114) dX7_text_114 fX7_60 rfl hR.1 ?_
      refine jJ_iload_n (pc := 117) dX7_text_117 rfl ?_
      refine jJ_icmp_ne (pc := 118) (tgt := 126) dX7_text_118 (by decide) (fun c118 => ?_) (fun c118 => ?_)
      · refine jJ_aload_n (pc := 126) dX7_text_126 rfl ?_
        refine jJ_geti (pc := 127) dX7_text_127 fX7_119 rfl hR.1 ?_
        try simp only [p3']
        refine jJ_iret (pc := 130) dX7_text_130 rfl ?_
        exact ⟨rfl, Or.inr ⟨hg, gB J a, hgB, by rw [hWd]; exact fin (Or.inl c118)⟩⟩
      · have e3 : jput J' m 21 (-1) m 3 = W.1 := by rw [jput_k _ (by decide), p3']
        refine jJ_aload_n (pc := 121) dX7_text_121 rfl ?_
        refine jJ_iconst (pc := 122) dX7_text_122 (by decide) ?_
        refine jJ_puti (pc := 123) dX7_text_123 fX7_60w rfl ⟨rfl, rfl⟩ hR.1 ?_
        try simp only [e3]
        refine jJ_aload_n (pc := 126) dX7_text_126 rfl ?_
        refine jJ_geti (pc := 127) dX7_text_127 fX7_119 rfl hR.1 ?_
        try simp only [e3]
        refine jJ_iret (pc := 130) dX7_text_130 rfl ?_
        refine ⟨rfl, Or.inr ⟨hg, gB J a, hgB, ?_⟩⟩
        rw [hWd]
        refine ⟨rfl, hrd.pm hR, fun k hk' => ?_, by rw [jput_k _ (by decide), pm 0 (by decide), i10], by rw [jput_k _ (by decide), pm 2 (by decide), i12], e3, by rw [jput_k _ (by decide), p4'], ?_⟩
        · rw [jput_k _ (by omega), pm k (by omega), i1m k (by omega) (by omega) (by omega) (by omega)]
        · rw [jput_s, if_pos ⟨c110, by rw [← e21]; exact c118⟩]
  have e2 : jput I m 0 0 m 2 = (l.length : Int) := by rw [jput_k _ (by decide), h2]
  refine jC_intro (by decide +kernel) (by simp [jc, va_rf, Value.category]) (Nat.le_of_ble_eq_true rfl) ?_
  refine jJ_aload_n (pc := 0) dX7_text_0 rfl ?_
  refine jJ_iconst (pc := 1) dX7_text_1 (by decide) ?_
  refine jJ_puti (pc := 2) dX7_text_2 fX7_78w rfl ⟨rfl, rfl⟩ hR.1 ?_
  try simp only [rgT, rgF, jput_s, jb_00, jb_10, jb_T, jb_F, e2]
  refine jJ_aload_n (pc := 5) dX7_text_5 rfl ?_
  refine jJ_iload_n (pc := 6) dX7_text_6 rfl ?_
  refine jJ_callSd (pc := 7) (as := [_]) dX7_text_7 mX7_205 (Nat.le_of_ble_eq_true rfl) (jRm_ok (by omega) (by decide)) (r_isNumber (d := d - 1)) ?_
  try simp only [rgT, rgF, jput_s, jb_00, jb_10, jb_T, jb_F, e2]
  refine jJ_if_eq (pc := 10) (tgt := 38) dX7_text_10 (by decide) (fun c10 => ?_) (fun c10 => ?_)
  · try simp only [jb_z, jb_nz] at c10
    refine jJ_iconst (pc := 38) dX7_text_38 (by decide) ?_
    refine jJ_iconst (pc := 39) dX7_text_39 (by decide) ?_
    refine jJ_callVd (pc := 40) (as := [_, _]) dX7_text_40 mX7_208 (jRcv_of hR.1 rfl rfl) (Nat.le_of_ble_eq_true rfl) (jRm_ok (by omega) (by decide)) (r_right (d := d - 1) hR) ?_
    try simp only [rgT, rgF, jput_s, jb_00, jb_10, jb_T, jb_F, e2]
    refine jJ_if_ne (pc := 43) (tgt := 48) dX7_text_43 (by decide) (fun c43 => ?_) (fun c43 => ?_)
    · try simp only [jb_z, jb_nz] at c43
      first | (exfalso; omega) | exact k48 (by omega)
    · try simp only [jb_z, jb_nz] at c43
      refine jJ_iconst (pc := 46) dX7_text_46 (by decide) ?_
      refine jJ_iret (pc := 47) dX7_text_47 rfl ?_
      first | (exfalso; omega) | exact ⟨rfl, Or.inl ⟨by omega, rfl, rfl⟩⟩
  · try simp only [jb_z, jb_nz] at c10
    refine jJ_iload_n (pc := 13) dX7_text_13 rfl ?_
    refine jJ_if_lt (pc := 14) (tgt := 38) dX7_text_14 (by decide) (fun c14 => ?_) (fun c14 => ?_)
    · try simp only [jb_z, jb_nz] at c14
      refine jJ_iconst (pc := 38) dX7_text_38 (by decide) ?_
      refine jJ_iconst (pc := 39) dX7_text_39 (by decide) ?_
      refine jJ_callVd (pc := 40) (as := [_, _]) dX7_text_40 mX7_208 (jRcv_of hR.1 rfl rfl) (Nat.le_of_ble_eq_true rfl) (jRm_ok (by omega) (by decide)) (r_right (d := d - 1) hR) ?_
      try simp only [rgT, rgF, jput_s, jb_00, jb_10, jb_T, jb_F, e2]
      refine jJ_if_ne (pc := 43) (tgt := 48) dX7_text_43 (by decide) (fun c43 => ?_) (fun c43 => ?_)
      · try simp only [jb_z, jb_nz] at c43
        first | (exfalso; omega) | exact k48 (by omega)
      · try simp only [jb_z, jb_nz] at c43
        refine jJ_iconst (pc := 46) dX7_text_46 (by decide) ?_
        refine jJ_iret (pc := 47) dX7_text_47 rfl ?_
        first | (exfalso; omega) | exact ⟨rfl, Or.inl ⟨by omega, rfl, rfl⟩⟩
    · try simp only [jb_z, jb_nz] at c14
      refine jJ_iload_n (pc := 17) dX7_text_17 rfl ?_
      refine jJ_iconst (pc := 18) dX7_text_18 (by decide) ?_
      refine jJ_icmp_gt (pc := 19) (tgt := 38) dX7_text_19 (by decide) (fun c19 => ?_) (fun c19 => ?_)
      · try simp only [jb_z, jb_nz] at c19
        refine jJ_iconst (pc := 38) dX7_text_38 (by decide) ?_
        refine jJ_iconst (pc := 39) dX7_text_39 (by decide) ?_
        refine jJ_callVd (pc := 40) (as := [_, _]) dX7_text_40 mX7_208 (jRcv_of hR.1 rfl rfl) (Nat.le_of_ble_eq_true rfl) (jRm_ok (by omega) (by decide)) (r_right (d := d - 1) hR) ?_
        try simp only [rgT, rgF, jput_s, jb_00, jb_10, jb_T, jb_F, e2]
        refine jJ_if_ne (pc := 43) (tgt := 48) dX7_text_43 (by decide) (fun c43 => ?_) (fun c43 => ?_)
        · try simp only [jb_z, jb_nz] at c43
          first | (exfalso; omega) | exact k48 (by omega)
        · try simp only [jb_z, jb_nz] at c43
          refine jJ_iconst (pc := 46) dX7_text_46 (by decide) ?_
          refine jJ_iret (pc := 47) dX7_text_47 rfl ?_
          first | (exfalso; omega) | exact ⟨rfl, Or.inl ⟨by omega, rfl, rfl⟩⟩
      · try simp only [jb_z, jb_nz] at c19
        refine jJ_iload_n (pc := 22) dX7_text_22 rfl ?_
        refine jJ_if_lt (pc := 23) (tgt := 38) dX7_text_23 (by decide) (fun c23 => ?_) (fun c23 => ?_)
        · try simp only [jb_z, jb_nz] at c23
          refine jJ_iconst (pc := 38) dX7_text_38 (by decide) ?_
          refine jJ_iconst (pc := 39) dX7_text_39 (by decide) ?_
          refine jJ_callVd (pc := 40) (as := [_, _]) dX7_text_40 mX7_208 (jRcv_of hR.1 rfl rfl) (Nat.le_of_ble_eq_true rfl) (jRm_ok (by omega) (by decide)) (r_right (d := d - 1) hR) ?_
          try simp only [rgT, rgF, jput_s, jb_00, jb_10, jb_T, jb_F, e2]
          refine jJ_if_ne (pc := 43) (tgt := 48) dX7_text_43 (by decide) (fun c43 => ?_) (fun c43 => ?_)
          · try simp only [jb_z, jb_nz] at c43
            first | (exfalso; omega) | exact k48 (by omega)
          · try simp only [jb_z, jb_nz] at c43
            refine jJ_iconst (pc := 46) dX7_text_46 (by decide) ?_
            refine jJ_iret (pc := 47) dX7_text_47 rfl ?_
            first | (exfalso; omega) | exact ⟨rfl, Or.inl ⟨by omega, rfl, rfl⟩⟩
        · try simp only [jb_z, jb_nz] at c23
          refine jJ_iload_n (pc := 26) dX7_text_26 rfl ?_
          refine jJ_aload_n (pc := 27) dX7_text_27 rfl ?_
          refine jJ_geti (pc := 28) dX7_text_28 fX7_81 rfl hR.1 ?_
          try simp only [rgT, rgF, jput_s, jb_00, jb_10, jb_T, jb_F, e2]
          refine jJ_icmp_gt (pc := 31) (tgt := 38) dX7_text_31 (by decide) (fun c31 => ?_) (fun c31 => ?_)
          · try simp only [jb_z, jb_nz] at c31
            refine jJ_iconst (pc := 38) dX7_text_38 (by decide) ?_
            refine jJ_iconst (pc := 39) dX7_text_39 (by decide) ?_
            refine jJ_callVd (pc := 40) (as := [_, _]) dX7_text_40 mX7_208 (jRcv_of hR.1 rfl rfl) (Nat.le_of_ble_eq_true rfl) (jRm_ok (by omega) (by decide)) (r_right (d := d - 1) hR) ?_
            try simp only [rgT, rgF, jput_s, jb_00, jb_10, jb_T, jb_F, e2]
            refine jJ_if_ne (pc := 43) (tgt := 48) dX7_text_43 (by decide) (fun c43 => ?_) (fun c43 => ?_)
            · try simp only [jb_z, jb_nz] at c43
              first | (exfalso; omega) | exact k48 (by omega)
            · try simp only [jb_z, jb_nz] at c43
              refine jJ_iconst (pc := 46) dX7_text_46 (by decide) ?_
              refine jJ_iret (pc := 47) dX7_text_47 rfl ?_
              first | (exfalso; omega) | exact ⟨rfl, Or.inl ⟨by omega, rfl, rfl⟩⟩
          · try simp only [jb_z, jb_nz] at c31
            refine jJ_iconst (pc := 34) dX7_text_34 (by decide) ?_
            refine jJ_goto (pc := 35) (tgt := 39) dX7_text_35 (by decide) ?_
            refine jJ_iconst (pc := 39) dX7_text_39 (by decide) ?_
            refine jJ_callVd (pc := 40) (as := [_, _]) dX7_text_40 mX7_208 (jRcv_of hR.1 rfl rfl) (Nat.le_of_ble_eq_true rfl) (jRm_ok (by omega) (by decide)) (r_right (d := d - 1) hR) ?_
            try simp only [rgT, rgF, jput_s, jb_00, jb_10, jb_T, jb_F, e2]
            refine jJ_if_ne (pc := 43) (tgt := 48) dX7_text_43 (by decide) (fun c43 => ?_) (fun c43 => ?_)
            · try simp only [jb_z, jb_nz] at c43
              first | (exfalso; omega) | exact k48 (by omega)
            · try simp only [jb_z, jb_nz] at c43
              refine jJ_iconst (pc := 46) dX7_text_46 (by decide) ?_
              refine jJ_iret (pc := 47) dX7_text_47 rfl ?_
              first | (exfalso; omega) | exact ⟨rfl, Or.inl ⟨by omega, rfl, rfl⟩⟩
end JRW2
