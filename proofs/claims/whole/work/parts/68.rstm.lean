section JRY
theorem stm_1 {u r : Nat → Int} (h : u 10 = 1) : stmV u r = 1 ∧ stmS u r = ownS u 0 2 := by unfold stmV stmS; rw [if_pos h, if_pos h]; exact ⟨rfl, rfl⟩
theorem stm_6 {u r : Nat → Int} (h : u 10 = 6) : stmV u r = 1 ∧ stmS u r = ownS u 1 3 := by
  have n1 : ¬ u 10 = 1 := by omega
  unfold stmV stmS; rw [if_neg n1, if_neg n1, if_pos h, if_pos h]; exact ⟨rfl, rfl⟩
theorem stm_3 {u r : Nat → Int} (h : u 10 = 3) : stmV u r = 1 ∧ stmS u r = ownS u 2 6 := by
  have n1 : ¬ u 10 = 1 := by omega
  have n6 : ¬ u 10 = 6 := by omega
  unfold stmV stmS; rw [if_neg n1, if_neg n1, if_neg n6, if_neg n6, if_pos h, if_pos h]; exact ⟨rfl, rfl⟩
theorem stm_5 {u r : Nat → Int} (h : u 10 = 5) : stmV u r = 1 ∧ stmS u r = ownS u 3 6 := by
  have n1 : ¬ u 10 = 1 := by omega
  have n6 : ¬ u 10 = 6 := by omega
  have n3 : ¬ u 10 = 3 := by omega
  unfold stmV stmS; rw [if_neg n1, if_neg n1, if_neg n6, if_neg n6, if_neg n3, if_neg n3, if_pos h, if_pos h]; exact ⟨rfl, rfl⟩
theorem stm_4 {u r : Nat → Int} (h : u 10 = 4) : stmV u r = jb (u 4 = 1) ∧ stmS u r = (if u 4 = 1 then su u 4 9 else u) := by
  have n1 : ¬ u 10 = 1 := by omega
  have n6 : ¬ u 10 = 6 := by omega
  have n3 : ¬ u 10 = 3 := by omega
  have n5 : ¬ u 10 = 5 := by omega
  unfold stmV stmS; rw [if_neg n1, if_neg n1, if_neg n6, if_neg n6, if_neg n3, if_neg n3, if_neg n5, if_neg n5, if_pos h, if_pos h]; exact ⟨rfl, rfl⟩
theorem stm_125 {u r : Nat → Int} (h : u 10 = 125) : stmV u r = jb (rInner u r ≠ -1) ∧ stmS u r = endBlS u r := by
  have n1 : ¬ u 10 = 1 := by omega
  have n6 : ¬ u 10 = 6 := by omega
  have n3 : ¬ u 10 = 3 := by omega
  have n5 : ¬ u 10 = 5 := by omega
  have n4 : ¬ u 10 = 4 := by omega
  unfold stmV stmS; rw [if_neg n1, if_neg n1, if_neg n6, if_neg n6, if_neg n3, if_neg n3, if_neg n5, if_neg n5, if_neg n4, if_neg n4, if_pos h, if_pos h]; exact ⟨rfl, rfl⟩
theorem stm_no {u r : Nat → Int} (h1 : u 10 ≠ 1) (h6 : u 10 ≠ 6) (h3 : u 10 ≠ 3) (h5 : u 10 ≠ 5) (h4 : u 10 = 4 → u 4 ≠ 1) (h125 : u 10 = 125 → rInner u r = -1) : stmV u r = 0 := by
  unfold stmV
  rw [if_neg h1, if_neg h6, if_neg h3, if_neg h5]
  by_cases q : u 10 = 4
  · rw [if_pos q, ← jb_f (h4 q)]
  · rw [if_neg q]
    by_cases q2 : u 10 = 125
    · rw [if_pos q2, ← jb_f (by simp [h125 q2])]
    · rw [if_neg q2]
variable {E : jE} {I : jI} {P : jP} {m n d : Nat} {a : Nat → Nat} {fk fp : Int} {s r : Nat → Int} {ts : List T5}
/-- behind a STATEMENT -/
def ShT (g : Nat → Int) (n : Nat) (s r : Nat → Int) (ts : List T5) (s' r' : Nat → Int) (ts' : List T5) : Prop := (s' 4 = 0 ∨ (s' 4 = 1 ∧ tkG g n (s' 9).toNat ≠ 4)) ∧ s' 1 = s 1 ∧ s' 2 = s 2 ∧ (∀ j : Nat, (j : Int) < s 1 → r' j = r j) ∧ ts.length < ts'.length
theorem g_own {x v : Int} (hR : RfL E P m a) (hn : I (a 7) 12 = (n : Int)) (hn2 : n ≤ 800) (hg : ∀ k, k < n → 0 ≤ gB I a k ∧ gB I a k ≤ 255) (hO : Ok s ts) (hV : stdV (scS (gB I a) n s) r = 1) (hS : stdS (scS (gB I a) n s) r = ownS (scS (gB I a) n s) x v) (hd : 6 ≤ d) :
    jC E yX7_comes cX7_comes 4 (some .boolean) d [jp m, ji x] (rfM I m a (su (mS (gB I a) n fk fp s) 10 (s 6 + 1)) ts) P (GQ I m a P n fk fp s r ts (ShS (gB I a) n s r ts)) := by
  have k := g_comes (fk := fk) (fp := fp) (d := d) (st := x) (r := r) hR hn hn2 hg hO (by rw [hV]; decide) (by rw [hS]; rfl) hd
  rw [show stdS (scS (gB I a) n s) r 6 = s 6 + 1 by rw [hS]; rfl] at k
  exact k
theorem call_end {s0 r0 : Nat → Int} {ts0 : List T5} (hR : RfL E P m a) (hn : I (a 7) 12 = (n : Int)) (hn2 : n ≤ 800) (hg : ∀ k, k < n → 0 ≤ gB I a k ∧ gB I a k ≤ 255) (hd : 22 ≤ d) (h01 : 0 ≤ s0 1)
    (e : Nn (gB I a) n s0 r0 ts0 = Nn (gB I a) n s r ts) (hO : Ok s ts) (hs : (s 4 = 5 ∧ tkG (gB I a) n (s 9).toNat = 41) ∨ (s 4 = 7 ∧ ¬ (tkG (gB I a) n (s 9).toNat = 43 ∨ tkG (gB I a) n (s 9).toNat = 45 ∨ tkG (gB I a) n (s 9).toNat = 60) ∧ tkG (gB I a) n (s 9).toNat ≠ 44)) (h5 : s 5 = 1) (h1 : s 1 = s0 1 + 1) (h2 : s 2 = s0 2) (hr : rInner s r = 1) (hrj : ∀ j : Nat, (j : Int) < s0 1 → r j = r0 j) (hl : ts0.length < ts.length) :
    jJ E yX7_call.cls cX7_call 1 (some .boolean) (jRm d) (jZ E (GQ I m a P n fk fp s0 r0 ts0 (ShT (gB I a) n s0 r0 ts0))) 0 0 74 [some (jp m)] [] (rfM I m a (mS (gB I a) n fk fp s) ts) P := by
  have hst : (tkG (gB I a) n (s 9).toNat = 41 → stdV (scS (gB I a) n s) r = 1 ∧ stdS (scS (gB I a) n s) r = endBrS (scS (gB I a) n s) r ∧ stdR (scS (gB I a) n s) r = r) ∧ (tkG (gB I a) n (s 9).toNat ≠ 41 → stdV (scS (gB I a) n s) r = 0) := by
    rcases hs with ⟨q1, q2⟩ | ⟨q1, q2, q3⟩
    · exact ⟨fun z => std_5c (u := scS (gB I a) n s) (r := r) q1 q2, fun z => absurd q2 z⟩
    · have t7 := std_7 (u := scS (gB I a) n s) (r := r) q1
      have tg := go_ar (u := scS (gB I a) n s) (r := r) q2 hr
      rw [tg.1, tg.2.1, tg.2.2] at t7
      refine ⟨fun z => ?_, fun z => ?_⟩
      · rw [if_pos (show scS (gB I a) n s 10 = 41 from z), if_pos (show scS (gB I a) n s 10 = 41 from z)] at t7
        exact t7
      · rw [t7.1, if_neg (show ¬ scS (gB I a) n s 10 = 41 from z), ← jb_f (show ¬ scS (gB I a) n s 10 = 44 from q3)]
  refine jJ_aload_n (pc := 74) dX7_call_74 rfl ?_
  refine jJ_ldcS (pc := 75) (i := 8) dX7_call_75 (by decide +kernel) ?_
  refine jJ_iconst (pc := 77) dX7_call_77 (by decide) ?_
  refine jJ_callG (pc := 78) (as := [_, _]) dX7_call_78 mX7_172 (jRcv_of hR.1 rfl rfl) (Nat.le_of_ble_eq_true rfl) (jRm_ok (by omega) (by decide)) (g_need (r := r) (c := 41) (d := d - 1) hR hn hn2 hg (by decide) (by decide) rfl hO (fun z => by obtain ⟨w1, w2, w3⟩ := hst.1 z; rw [w1, w2]; exact ⟨by decide, h5, rfl⟩) hst.2 (by omega) (by omega)) (fun s1 r1 ts1 e1 o1 h1 => ?_) (fun σ1 tf1 f1 => ?_)
  · refine jJ_if_eq (pc := 81) (tgt := 98) dX7_call_81 (by decide) (fun c81 => ?_) (fun c81 => ?_)
    · exact absurd c81 (by decide)
    · obtain ⟨hG1, q2, q3, q4⟩ := h1
      obtain ⟨w1, w2, w3⟩ := hst.1 hG1
      rw [w2] at q2
      rw [w3] at q3
      have x1 : s1 1 = s0 1 := by rw [q2]; show s 1 - 1 = s0 1; omega
      have x2 : s1 2 = s0 2 := by rw [q2]; exact h2
      have x4 : s1 4 = 8 := by rw [q2]; show (if rInner s r = 1 then (8 : Int) else 7) = 8; rw [hr]; rfl
      have x5 : s1 5 = 1 := by rw [q2]; exact h5
      have xl : ts1.length = ts.length + 1 := by rw [q4]; exact len_app
      have t8 := std_8 (u := scS (gB I a) n s1) (r := r1) x4
      refine jJ_aload_n (pc := 84) dX7_call_84 rfl ?_
      refine jJ_ldcS (pc := 85) (i := 13) dX7_call_85 (by decide +kernel) ?_
      refine jJ_iconst (pc := 87) dX7_call_87 (by decide) ?_
      refine jJ_callG (pc := 88) (as := [_, _]) dX7_call_88 mX7_172 (jRcv_of hR.1 rfl rfl) (Nat.le_of_ble_eq_true rfl) (jRm_ok (by omega) (by decide)) (g_need (r := r1) (c := 59) (d := d - 1) hR hn hn2 hg (by decide) (by decide) rfl o1 (fun z => by rw [t8.1, t8.2.1, if_pos (show scS (gB I a) n s1 10 = 59 from z), ← jb_t (show scS (gB I a) n s1 10 = 59 from z)]; exact ⟨by decide, x5, rfl⟩) (fun z => by rw [t8.1, ← jb_f (show ¬ scS (gB I a) n s1 10 = 59 from z)]) (by omega) (by omega)) (fun s2 r2 ts2 e2 o2 h2 => ?_) (fun σ2 tf2 f2 => ?_)
      · refine jJ_if_eq (pc := 91) (tgt := 98) dX7_call_91 (by decide) (fun c91 => ?_) (fun c91 => ?_)
        · exact absurd c91 (by decide)
        · obtain ⟨hG2, z2, z3, z4⟩ := h2
          rw [t8.2.1, if_pos (show scS (gB I a) n s1 10 = 59 from hG2)] at z2
          rw [t8.2.2] at z3
          refine jJ_iconst (pc := 94) dX7_call_94 (by decide) ?_
          refine jJ_goto (pc := 95) (tgt := 99) dX7_call_95 (by decide) ?_
          refine jJ_zret (pc := 99) dX7_call_99 rfl (Or.inr rfl) ?_
          refine GQ_ok (e.trans (e1.trans e2)) o2 ⟨Or.inl (by rw [z2]; rfl), by rw [z2]; exact x1, by rw [z2]; exact x2, fun j hj => ?_, by rw [z4, len_app]; omega⟩
          rw [z3, q3]
          exact hrj j hj
      · refine jJ_if_eq (pc := 91) (tgt := 98) dX7_call_91 (by decide) (fun c91 => ?_) (fun c91 => ?_)
        · refine jJ_iconst (pc := 98) dX7_call_98 (by decide) ?_
          refine jJ_zret (pc := 99) dX7_call_99 rfl (Or.inl rfl) ?_
          exact GQ_fail (e.trans e1) f2
        · exact absurd rfl c91
  · refine jJ_if_eq (pc := 81) (tgt := 98) dX7_call_81 (by decide) (fun c81 => ?_) (fun c81 => ?_)
    · refine jJ_iconst (pc := 98) dX7_call_98 (by decide) ?_
      refine jJ_zret (pc := 99) dX7_call_99 rfl (Or.inl rfl) ?_
      exact GQ_fail e f1
    · exact absurd rfl c81
theorem call_loop {s0 r0 : Nat → Int} {ts0 : List T5} (hR : RfL E P m a) (hn : I (a 7) 12 = (n : Int)) (hn2 : n ≤ 800) (hg : ∀ k, k < n → 0 ≤ gB I a k ∧ gB I a k ≤ 255) (hd : 22 ≤ d) (h01 : 0 ≤ s0 1) :
    ∀ (k : Nat) (s r : Nat → Int) (ts : List T5), 201 - ts.length ≤ k → Nn (gB I a) n s0 r0 ts0 = Nn (gB I a) n s r ts → Ok s ts → s 4 = 7 → ¬ (tkG (gB I a) n (s 9).toNat = 43 ∨ tkG (gB I a) n (s 9).toNat = 45 ∨ tkG (gB I a) n (s 9).toNat = 60) → s 5 = 1 → s 1 = s0 1 + 1 → s 2 = s0 2 → rInner s r = 1 → (∀ j : Nat, (j : Int) < s0 1 → r j = r0 j) → ts0.length < ts.length →
      jJ E yX7_call.cls cX7_call 1 (some .boolean) (jRm d) (jZ E (GQ I m a P n fk fp s0 r0 ts0 (ShT (gB I a) n s0 r0 ts0))) 0 0 47 [some (jp m)] [] (rfM I m a (mS (gB I a) n fk fp s) ts) P := by
  intro k
  induction k with
  | zero =>
    intro s r ts hk e hO
    exfalso
    have := hO.2
    omega
  | succ k ih =>
    intro s r ts hk e hO h4 hop h5 h1 h2 hr hrj hl
    refine jJ_aload_n (pc := 47) dX7_call_47 rfl ?_
    refine jJ_ldcS (pc := 48) (i := 12) dX7_call_48 (by decide +kernel) ?_
    refine jJ_callVd (pc := 50) (as := [_]) dX7_call_50 mX7_132 (jRcv_of hR.1 rfl rfl) (Nat.le_of_ble_eq_true rfl) (jRm_ok (by omega) (by decide)) (r_isT (d := d - 1) (c := 44) (j := (s 9).toNat) hR hn hn2 (by decide) (by decide) rfl rfl rfl (by omega)) ?_
    refine jJ_if_eq (pc := 53) (tgt := 74) dX7_call_53 (by decide) (fun c53 => ?_) (fun c53 => ?_)
    · simp only [jb_z] at c53
      exact call_end hR hn hn2 hg hd h01 e hO (Or.inr ⟨h4, hop, c53⟩) h5 h1 h2 hr hrj hl
    · simp only [jb_nz] at c53
      have t7 := std_7 (u := scS (gB I a) n s) (r := r) h4
      have tg := go_ar (u := scS (gB I a) n s) (r := r) hop hr
      rw [tg.1, tg.2.1, tg.2.2, if_neg (show ¬ scS (gB I a) n s 10 = 41 by show ¬ tkG (gB I a) n (s 9).toNat = 41; omega), if_neg (show ¬ scS (gB I a) n s 10 = 41 by show ¬ tkG (gB I a) n (s 9).toNat = 41; omega), if_pos (show scS (gB I a) n s 10 = 44 from c53), ← jb_t (show scS (gB I a) n s 10 = 44 from c53)] at t7
      refine jJ_aload_n (pc := 56) dX7_call_56 rfl ?_
      refine jJ_iconst (pc := 57) dX7_call_57 (by decide) ?_
      refine jJ_callG (pc := 58) (as := [_]) dX7_call_58 mX7_166 (jRcv_of hR.1 rfl rfl) (Nat.le_of_ble_eq_true rfl) (jRm_ok (by omega) (by decide)) (g_come (r := r) (d := d - 1) hR hn hn2 hg hO (by rw [t7.1]; decide) (by rw [t7.2.1]; exact h5) (by rw [t7.2.1]; rfl) (by omega)) (fun sx rx tsx ex ox hx => ?_) (fun σx tfx fx => ?_)
      · refine jJ_if_eq (pc := 61) (tgt := 72) dX7_call_61 (by decide) (fun c61 => ?_) (fun c61 => ?_)
        · exact absurd c61 (by decide)
        · obtain ⟨q2, q3, q4⟩ := hx
          rw [t7.2.1] at q2
          rw [t7.2.2] at q3
          have x1 : sx 1 = s0 1 + 1 := by rw [q2]; exact h1
          have x2 : sx 2 = s0 2 := by rw [q2]; exact h2
          have x4 : sx 4 = 6 := by rw [q2]; rfl
          have x5 : sx 5 = 1 := by rw [q2]; exact h5
          have xl : tsx.length = ts.length + 1 := by rw [q4]; exact len_app
          refine jJ_aload_n (pc := 64) dX7_call_64 rfl ?_
          refine jJ_iconst (pc := 65) dX7_call_65 (by decide) ?_
          refine jJ_callG (pc := 66) (as := [_]) dX7_call_66 mX7_176 (jRcv_of hR.1 rfl rfl) (Nat.le_of_ble_eq_true rfl) (jRm_ok (by omega) (by decide)) (g_expr hR hn hn2 hg 6 sx rx tsx (d - 1) 1 x5 ox (Or.inl x4) (by omega) (by omega)) (fun sy ry tsy ey oy hy => ?_) (fun σy tfy fy => ?_)
          · refine jJ_if_ne (pc := 69) (tgt := 47) dX7_call_69 (by decide) (fun c69 => ?_) (fun c69 => ?_)
            · obtain ⟨⟨b4, b1, b2, b5, b6, bj, bl⟩, bo⟩ := hy
              refine ih sy ry tsy (by omega) (e.trans (ex.trans ey)) oy b4 bo (by omega) (by omega) (by omega) ?_ (fun j hj => ?_) (by omega)
              · rw [rInner_cg b1 bj, q3, rInner_cg (s := s) (r := r) (r' := r) (by omega) (fun _ _ => rfl)]; exact hr
              · rw [bj j (by omega), q3]; exact hrj j hj
            · exact absurd c69 (by decide)
          · refine jJ_if_ne (pc := 69) (tgt := 47) dX7_call_69 (by decide) (fun c69 => ?_) (fun c69 => ?_)
            · exact absurd rfl c69
            · refine jJ_iconst (pc := 72) dX7_call_72 (by decide) ?_
              refine jJ_zret (pc := 73) dX7_call_73 rfl (Or.inl rfl) ?_
              exact GQ_fail (e.trans ex) fy
      · refine jJ_if_eq (pc := 61) (tgt := 72) dX7_call_61 (by decide) (fun c61 => ?_) (fun c61 => ?_)
        · refine jJ_iconst (pc := 72) dX7_call_72 (by decide) ?_
          refine jJ_zret (pc := 73) dX7_call_73 rfl (Or.inl rfl) ?_
          exact GQ_fail e fx
        · exact absurd rfl c61
theorem g_call (hR : RfL E P m a) (hn : I (a 7) 12 = (n : Int)) (hn2 : n ≤ 800) (hg : ∀ k, k < n → 0 ≤ gB I a k ∧ gB I a k ≤ 255) (hO : Ok s ts) (h4 : s 4 = 0 ∨ s 4 = 1) (hG : tkG (gB I a) n (s 9).toNat = 6) (hd : 22 ≤ d) :
    jC E yX7_call cX7_call 1 (some .boolean) d [jp m] (rfM I m a (su (mS (gB I a) n fk fp s) 10 (s 6 + 1)) ts) P (GQ I m a P n fk fp s r ts (ShT (gB I a) n s r ts)) := by
  have h01 : 0 ≤ s 1 ∧ s 1 ≤ 6 := hO.1.1
  have t0 := std_0 (u := scS (gB I a) n s) (r := r) h4
  have tm := stm_6 (u := scS (gB I a) n s) (r := r) hG
  rw [tm.1, tm.2] at t0
  refine jC_intro (by decide +kernel) (by simp [jc, va_rf, Value.category]) (Nat.le_of_ble_eq_true rfl) ?_
  refine jJ_aload_n (pc := 0) dX7_call_0 rfl ?_
  refine jJ_iconst (pc := 1) dX7_call_1 (by decide) ?_
  refine jJ_callG (pc := 2) (as := [_]) dX7_call_2 mX7_166 (jRcv_of hR.1 rfl rfl) (Nat.le_of_ble_eq_true rfl) (jRm_ok (by omega) (by decide)) (g_own (r := r) (x := 1) (v := 3) (d := d - 1) hR hn hn2 hg hO t0.1 t0.2.1 (by omega)) (fun sw rw tsw ew ow hw => ?_) (fun σw tfw fw => ?_)
  · refine jJ_if_eq (pc := 5) (tgt := 26) dX7_call_5 (by decide) (fun c5 => ?_) (fun c5 => ?_)
    · exact absurd c5 (by decide)
    · obtain ⟨q2, q3, q4⟩ := hw
      rw [t0.2.1] at q2
      rw [t0.2.2] at q3
      have w1 : sw 1 = s 1 := by rw [q2]; rfl
      have w2 : sw 2 = s 2 := by rw [q2]; rfl
      have w4 : sw 4 = 3 := by rw [q2]; rfl
      have w5 : sw 5 = 1 := by rw [q2]; rfl
      have wl : tsw.length = ts.length + 1 := by rw [q4]; exact len_app
      have t3 := std_3 (u := scS (gB I a) n sw) (r := rw) w4
      refine jJ_aload_n (pc := 8) dX7_call_8 rfl ?_
      refine jJ_iconst (pc := 9) dX7_call_9 (by decide) ?_
      refine jJ_callG (pc := 10) (as := [_]) dX7_call_10 mX7_191 (jRcv_of hR.1 rfl rfl) (Nat.le_of_ble_eq_true rfl) (jRm_ok (by omega) (by decide)) (g_name (r := rw) (d := d - 1) hR hn hn2 hg ow (fun z => by rw [t3.1, t3.2.1, if_pos (show scS (gB I a) n sw 10 = 1 from z), ← jb_t (show scS (gB I a) n sw 10 = 1 from z)]; exact ⟨by decide, w5, rfl⟩) (fun z => by rw [t3.1, ← jb_f (show ¬ scS (gB I a) n sw 10 = 1 from z)]) (by omega) (by omega)) (fun sx rx tsx ex ox hx => ?_) (fun σx tfx fx => ?_)
      · refine jJ_if_eq (pc := 13) (tgt := 26) dX7_call_13 (by decide) (fun c13 => ?_) (fun c13 => ?_)
        · exact absurd c13 (by decide)
        · obtain ⟨gx, q5, q6, q7⟩ := hx
          rw [t3.2.1, if_pos (show scS (gB I a) n sw 10 = 1 from gx)] at q5
          rw [t3.2.2] at q6
          have x1 : sx 1 = s 1 := by rw [q5]; exact w1
          have x2 : sx 2 = s 2 := by rw [q5]; exact w2
          have x4 : sx 4 = 4 := by rw [q5]; rfl
          have x5 : sx 5 = 1 := by rw [q5]; exact w5
          have xl : tsx.length = tsw.length + 1 := by rw [q7]; exact len_app
          have t4 := std_4 (u := scS (gB I a) n sx) (r := rx) x4
          refine jJ_aload_n (pc := 16) dX7_call_16 rfl ?_
          refine jJ_ldcS (pc := 17) (i := 6) dX7_call_17 (by decide +kernel) ?_
          refine jJ_iconst (pc := 19) dX7_call_19 (by decide) ?_
          refine jJ_callG (pc := 20) (as := [_, _]) dX7_call_20 mX7_172 (jRcv_of hR.1 rfl rfl) (Nat.le_of_ble_eq_true rfl) (jRm_ok (by omega) (by decide)) (g_need (r := rx) (c := 40) (d := d - 1) hR hn hn2 hg (by decide) (by decide) rfl ox (fun z => by rw [t4.1, t4.2.1, if_pos (show scS (gB I a) n sx 10 = 40 from z), ← jb_t (show scS (gB I a) n sx 10 = 40 from z)]; exact ⟨by decide, by unfold pushS; split <;> exact x5, by unfold pushS; split <;> rfl⟩) (fun z => by rw [t4.1, ← jb_f (show ¬ scS (gB I a) n sx 10 = 40 from z)]) (by omega) (by omega)) (fun sy ry tsy ey oy hy => ?_) (fun σy tfy fy => ?_)
          · refine jJ_if_ne (pc := 23) (tgt := 28) dX7_call_23 (by decide) (fun c23 => ?_) (fun c23 => ?_)
            · obtain ⟨gy, z2, z3, z4⟩ := hy
              rw [t4.2.1, if_pos (show scS (gB I a) n sx 10 = 40 from gy)] at z2
              rw [t4.2.2, if_pos (show scS (gB I a) n sx 10 = 40 from gy)] at z3
              have hp1 := push_in (u := su (scS (gB I a) n sx) 4 5) (r := rx) (v := 1) ox.1.1 (by rw [← z2]; exact oy.1.2.2.2.1)
              rw [hp1.2.1] at z2
              rw [hp1.2.2] at z3
              have hs6 : sx 1 < 6 := hp1.1
              have y1 : sy 1 = s 1 + 1 := by rw [z2, ← x1]; rfl
              have y2 : sy 2 = s 2 := by rw [z2]; exact x2
              have y4 : sy 4 = 5 := by rw [z2]; rfl
              have y5 : sy 5 = 1 := by rw [z2]; exact x5
              have yl : tsy.length = tsx.length + 1 := by rw [z4]; exact len_app
              have yj : ∀ j : Nat, ry j = if j = (sx 1).toNat then 1 else rx j := fun j => by rw [z3]; rfl
              have yr : rInner sy ry = 1 := by rw [rInner_top (by omega), yj, if_pos (by omega)]
              have yk : ∀ j : Nat, (j : Int) < s 1 → ry j = r j := fun j hj => by rw [yj, if_neg (by omega), q6, q3]
              refine jJ_aload_n (pc := 28) dX7_call_28 rfl ?_
              refine jJ_ldcS (pc := 29) (i := 8) dX7_call_29 (by decide +kernel) ?_
              refine jJ_callVd (pc := 31) (as := [_]) dX7_call_31 mX7_132 (jRcv_of hR.1 rfl rfl) (Nat.le_of_ble_eq_true rfl) (jRm_ok (by omega) (by decide)) (r_isT (d := d - 1) (c := 41) (j := (sy 9).toNat) hR hn hn2 (by decide) (by decide) rfl rfl rfl (by omega)) ?_
              refine jJ_if_ne (pc := 34) (tgt := 74) dX7_call_34 (by decide) (fun c34 => ?_) (fun c34 => ?_)
              · simp only [jb_nz] at c34
                exact call_end hR hn hn2 hg hd h01.1 (ew.trans (ex.trans ey)) oy (Or.inl ⟨y4, c34⟩) y5 y1 y2 yr yk (by omega)
              · simp only [jb_z] at c34
                refine jJ_aload_n (pc := 37) dX7_call_37 rfl ?_
                refine jJ_iconst (pc := 38) dX7_call_38 (by decide) ?_
                refine jJ_callG (pc := 39) (as := [_]) dX7_call_39 mX7_176 (jRcv_of hR.1 rfl rfl) (Nat.le_of_ble_eq_true rfl) (jRm_ok (by omega) (by decide)) (g_expr hR hn hn2 hg 6 sy ry tsy (d - 1) 1 y5 oy (Or.inr ⟨y4, c34⟩) (by omega) (by omega)) (fun sz rz tsz ez oz hz => ?_) (fun σz tfz fz => ?_)
                · refine jJ_if_ne (pc := 42) (tgt := 47) dX7_call_42 (by decide) (fun c42 => ?_) (fun c42 => ?_)
                  · obtain ⟨⟨b4, b1, b2, b5, b6, bj, bl⟩, bo⟩ := hz
                    refine call_loop hR hn hn2 hg hd h01.1 _ sz rz tsz (Nat.le_refl _) (ew.trans (ex.trans (ey.trans ez))) oz b4 bo (by omega) (by omega) (by omega) ?_ (fun j hj => ?_) (by omega)
                    · rw [rInner_cg b1 bj]; exact yr
                    · rw [bj j (by omega)]; exact yk j hj
                  · exact absurd c42 (by decide)
                · refine jJ_if_ne (pc := 42) (tgt := 47) dX7_call_42 (by decide) (fun c42 => ?_) (fun c42 => ?_)
                  · exact absurd rfl c42
                  · refine jJ_iconst (pc := 45) dX7_call_45 (by decide) ?_
                    refine jJ_zret (pc := 46) dX7_call_46 rfl (Or.inl rfl) ?_
                    exact GQ_fail (ew.trans (ex.trans ey)) fz
            · exact absurd c23 (by decide)
          · refine jJ_if_ne (pc := 23) (tgt := 28) dX7_call_23 (by decide) (fun c23 => ?_) (fun c23 => ?_)
            · exact absurd rfl c23
            · refine jJ_iconst (pc := 26) dX7_call_26 (by decide) ?_
              refine jJ_zret (pc := 27) dX7_call_27 rfl (Or.inl rfl) ?_
              exact GQ_fail (ew.trans ex) fy
      · refine jJ_if_eq (pc := 13) (tgt := 26) dX7_call_13 (by decide) (fun c13 => ?_) (fun c13 => ?_)
        · refine jJ_iconst (pc := 26) dX7_call_26 (by decide) ?_
          refine jJ_zret (pc := 27) dX7_call_27 rfl (Or.inl rfl) ?_
          exact GQ_fail ew fx
        · exact absurd rfl c13
  · refine jJ_if_eq (pc := 5) (tgt := 26) dX7_call_5 (by decide) (fun c5 => ?_) (fun c5 => ?_)
    · refine jJ_iconst (pc := 26) dX7_call_26 (by decide) ?_
      refine jJ_zret (pc := 27) dX7_call_27 rfl (Or.inl rfl) ?_
      exact GQ_fail rfl fw
    · exact absurd rfl c5
/-- the { of a BLOCK may stand: what is put among what stands open -/
def BlP (g : Nat → Int) (n : Nat) (s r : Nat → Int) (b : Int) : Prop := stdV (scS g n s) r = jb (tkG g n (s 9).toNat = 123) ∧ (tkG g n (s 9).toNat = 123 → stdS (scS g n s) r = stBlS (scS g n s) ∧ stdR (scS g n s) r = stBlR (scS g n s) r b) ∧ (b = 2 ∨ b = 3 ∨ b = 4) ∧ s 5 = (if b = 4 then 3 else 2) ∧ ¬ (s 1 = 0 ∧ (s 4 = 0 ∨ s 4 = 1))
/-- behind a BLOCK -/
def ShB (b : Int) (s r : Nat → Int) (ts : List T5) (s' r' : Nat → Int) (ts' : List T5) : Prop := s' 4 = (if b = 2 then 1 else 0) ∧ s' 1 = s 1 ∧ s' 2 = s 2 ∧ s' 5 = s 5 ∧ (∀ j : Nat, (j : Int) < s 1 → r' j = r j) ∧ ts.length < ts'.length
def StmP (E : jE) (I : jI) (P : jP) (m n : Nat) (a : Nat → Nat) (fk fp : Int) (L : Nat) : Prop := ∀ (s r : Nat → Int) (ts : List T5) (d : Nat), Ok s ts → (s 4 = 0 ∨ (s 4 = 1 ∧ tkG (gB I a) n (s 9).toNat ≠ 4)) → rInner s r ≠ 0 → rInner s r ≠ 1 → (tkG (gB I a) n (s 9).toNat = 125 → rInner s r = -1) → (tkG (gB I a) n (s 9).toNat = 8 → 0 < s 1) → 6 - s 1 ≤ (L : Int) → 23 + 2 * L ≤ d → jC E yX7_statement cX7_statement 1 (some .boolean) d [jp m] (rfM I m a (mS (gB I a) n fk fp s) ts) P (GQ I m a P n fk fp s r ts (ShT (gB I a) n s r ts))
def BlkP (E : jE) (I : jI) (P : jP) (m n : Nat) (a : Nat → Nat) (fk fp : Int) (L : Nat) : Prop := ∀ (s r : Nat → Int) (ts : List T5) (d : Nat) (st b : Int), s 5 = st → Ok s ts → BlP (gB I a) n s r b → 6 - s 1 ≤ (L : Int) → 22 + 2 * L ≤ d → jC E yX7_block cX7_block 2 (some .boolean) d [jp m, ji st] (rfM I m a (mS (gB I a) n fk fp s) ts) P (GQ I m a P n fk fp s r ts (ShB b s r ts))
theorem block_loop {L : Nat} {st b : Int} (hR : RfL E P m a) (hn : I (a 7) 12 = (n : Int)) (hn2 : n ≤ 800) (hg : ∀ k, k < n → 0 ≤ gB I a k ∧ gB I a k ≤ 255) (hp : StmP E I P m n a fk fp L) (hst : st = (if b = 4 then 3 else 2)) (hb : b = 2 ∨ b = 3 ∨ b = 4) (h5 : s 5 = st) (h1 : 0 ≤ s 1 ∧ s 1 < 6) (hL : 5 - s 1 ≤ (L : Int)) (hd : 24 + 2 * L ≤ d) :
    ∀ (k : Nat) (s1 r1 : Nat → Int) (ts1 : List T5), 201 - ts1.length ≤ k → Nn (gB I a) n s r ts = Nn (gB I a) n s1 r1 ts1 → Ok s1 ts1 → (s1 4 = 0 ∨ (s1 4 = 1 ∧ tkG (gB I a) n (s1 9).toNat ≠ 4)) → s1 1 = s 1 + 1 → s1 2 = s 2 + 1 → rInner s1 r1 = b → (∀ j : Nat, (j : Int) < s 1 → r1 j = r j) → ts.length < ts1.length →
      jJ E yX7_block.cls cX7_block 2 (some .boolean) (jRm d) (jZ E (GQ I m a P n fk fp s r ts (ShB b s r ts))) 0 0 12 [some (jp m), some (ji st)] [] (rfM I m a (mS (gB I a) n fk fp s1) ts1) P := by
  intro k
  induction k with
  | zero =>
    intro s1 r1 ts1 hk e hO
    exfalso
    have := hO.2
    omega
  | succ k ih =>
    intro s1 r1 ts1 hk e hO q4 q1 q2 qr qj ql
    refine jJ_aload_n (pc := 12) dX7_block_12 rfl ?_
    refine jJ_ldcS (pc := 13) (i := 7) dX7_block_13 (by decide +kernel) ?_
    refine jJ_callVd (pc := 15) (as := [_]) dX7_block_15 mX7_132 (jRcv_of hR.1 rfl rfl) (Nat.le_of_ble_eq_true rfl) (jRm_ok (by omega) (by decide)) (r_isT (d := d - 1) (c := 125) (j := (s1 9).toNat) hR hn hn2 (by decide) (by decide) rfl rfl rfl (by omega)) ?_
    refine jJ_if_ne (pc := 18) (tgt := 30) dX7_block_18 (by decide) (fun c18 => ?_) (fun c18 => ?_)
    · simp only [jb_nz] at c18
      have t0 := std_0 (u := scS (gB I a) n s1) (r := r1) (q4.imp id (fun z => z.1))
      have tm := stm_125 (u := scS (gB I a) n s1) (r := r1) c18
      have hri : rInner (scS (gB I a) n s1) r1 ≠ -1 := by rw [rInner_sc, qr]; omega
      rw [tm.1, tm.2, ← jb_t hri, endBlS, if_neg hri] at t0
      refine jJ_aload_n (pc := 30) dX7_block_30 rfl ?_
      refine jJ_iload_n (pc := 31) dX7_block_31 rfl ?_
      refine jJ_callG (pc := 32) (as := [_]) dX7_block_32 mX7_166 (jRcv_of hR.1 rfl rfl) (Nat.le_of_ble_eq_true rfl) (jRm_ok (by omega) (by decide)) (g_come (r := r1) (d := d - 1) hR hn hn2 hg hO (by rw [t0.1]; decide) (by rw [t0.2.1, hst, ← qr]; rfl) (by rw [t0.2.1]; rfl) (by omega)) (fun sx rx tsx ex ox hx => ?_) (fun σx tfx fx => ?_)
      · refine jJ_zret (pc := 35) dX7_block_35 rfl (Or.inr rfl) ?_
        obtain ⟨z2, z3, z4⟩ := hx
        rw [t0.2.1] at z2
        rw [t0.2.2] at z3
        refine GQ_ok (e.trans ex) ox ⟨?_, ?_, ?_, ?_, fun j hj => ?_, ?_⟩
        · rw [z2, ← qr]; rfl
        · rw [z2]; show s1 1 - 1 = s 1; omega
        · rw [z2]; show s1 2 - 1 = s 2; omega
        · rw [z2, h5, hst, ← qr]; rfl
        · rw [z3]; exact qj j hj
        · rw [z4, len_app]; omega
      · refine jJ_zret (pc := 35) dX7_block_35 rfl (Or.inl rfl) ?_
        exact GQ_fail e fx
    · simp only [jb_z] at c18
      refine jJ_aload_n (pc := 21) dX7_block_21 rfl ?_
      refine jJ_callG (pc := 22) (as := []) dX7_block_22 mX7_188 (jRcv_of hR.1 rfl rfl) (Nat.le_of_ble_eq_true rfl) (jRm_ok (by omega) (by decide)) (hp s1 r1 ts1 (d - 1) hO q4 (by omega) (by omega) (fun z => absurd z c18) (fun _ => by omega) (by omega) (by omega)) (fun sx rx tsx ex ox hx => ?_) (fun σx tfx fx => ?_)
      · refine jJ_if_ne (pc := 25) (tgt := 12) dX7_block_25 (by decide) (fun c25 => ?_) (fun c25 => ?_)
        · obtain ⟨b4, b1, b2, bj, bl⟩ := hx
          refine ih sx rx tsx (by omega) (e.trans ex) ox b4 (by omega) (by omega) ?_ (fun j hj => ?_) (by omega)
          · rw [rInner_cg b1 bj]; exact qr
          · rw [bj j (by omega)]; exact qj j hj
        · exact absurd c25 (by decide)
      · refine jJ_if_ne (pc := 25) (tgt := 12) dX7_block_25 (by decide) (fun c25 => ?_) (fun c25 => ?_)
        · exact absurd rfl c25
        · refine jJ_iconst (pc := 28) dX7_block_28 (by decide) ?_
          refine jJ_zret (pc := 29) dX7_block_29 rfl (Or.inl rfl) ?_
          exact GQ_fail e fx
theorem g_block_of {L : Nat} (hR : RfL E P m a) (hn : I (a 7) 12 = (n : Int)) (hn2 : n ≤ 800) (hg : ∀ k, k < n → 0 ≤ gB I a k ∧ gB I a k ≤ 255) (hp : ∀ L', L = L' + 1 → StmP E I P m n a fk fp L') : BlkP E I P m n a fk fp L := by
  intro s r ts d st b hst hO hB hL hd
  obtain ⟨hv, hS, hb, h5, he⟩ := hB
  refine jC_intro (by decide +kernel) (by simp [jc, va_rf, Value.category]) (Nat.le_of_ble_eq_true rfl) ?_
  refine jJ_aload_n (pc := 0) dX7_block_0 rfl ?_
  refine jJ_ldcS (pc := 1) (i := 5) dX7_block_1 (by decide +kernel) ?_
  refine jJ_iload_n (pc := 3) dX7_block_3 rfl ?_
  refine jJ_callG (pc := 4) (as := [_, _]) dX7_block_4 mX7_172 (jRcv_of hR.1 rfl rfl) (Nat.le_of_ble_eq_true rfl) (jRm_ok (by omega) (by decide)) (g_need (r := r) (c := 123) (d := d - 1) hR hn hn2 hg (by decide) (by decide) rfl hO (fun z => by rw [hv, (hS z).1, ← jb_t z]; exact ⟨by decide, by unfold stBlS pushS; split <;> exact hst, by unfold stBlS pushS; split <;> rfl⟩) (fun z => by rw [hv, ← jb_f z]) he (by omega)) (fun sx rx tsx ex ox hx => ?_) (fun σx tfx fx => ?_)
  · refine jJ_if_ne (pc := 7) (tgt := 12) dX7_block_7 (by decide) (fun c7 => ?_) (fun c7 => ?_)
    · obtain ⟨gx, z2, z3, z4⟩ := hx
      rw [(hS gx).1] at z2
      rw [(hS gx).2] at z3
      unfold stBlS at z2
      unfold stBlR at z3
      have hp1 := push_in (u := su (su (scS (gB I a) n s) 4 0) 2 (scS (gB I a) n s 2 + 1)) (r := r) (v := b) hO.1.1 (by rw [← z2]; exact ox.1.2.2.2.1)
      rw [hp1.2.1] at z2
      rw [hp1.2.2] at z3
      have hs6 : s 1 < 6 := hp1.1
      have x1 : sx 1 = s 1 + 1 := by rw [z2]; rfl
      have x2 : sx 2 = s 2 + 1 := by rw [z2]; rfl
      have x4 : sx 4 = 0 := by rw [z2]; rfl
      have xl : tsx.length = ts.length + 1 := by rw [z4]; exact len_app
      have xj : ∀ j : Nat, rx j = if j = (s 1).toNat then b else r j := fun j => by rw [z3]; rfl
      have h01 := hO.1.1
      obtain ⟨L', hL'⟩ : ∃ L', L = L' + 1 := ⟨L - 1, by omega⟩
      refine block_loop hR hn hn2 hg (hp L' hL') (hst.symm.trans h5) hb hst ⟨h01.1, hs6⟩ (by omega) (by omega) _ sx rx tsx (Nat.le_refl _) ex ox (Or.inl x4) x1 x2 ?_ (fun j hj => ?_) (by omega)
      · rw [rInner_top (by omega), xj, if_pos (by omega)]
      · rw [xj, if_neg (by omega)]
    · exact absurd c7 (by decide)
  · refine jJ_if_ne (pc := 7) (tgt := 12) dX7_block_7 (by decide) (fun c7 => ?_) (fun c7 => ?_)
    · exact absurd rfl c7
    · refine jJ_iconst (pc := 10) dX7_block_10 (by decide) ?_
      refine jJ_zret (pc := 11) dX7_block_11 rfl (Or.inl rfl) ?_
      exact GQ_fail rfl fx
end JRY
