section JRX
theorem rInner_top {s r : Nat → Int} (h : 0 < s 1 ∧ s 1 ≤ 6) : rInner s r = r (s 1 - 1).toNat := by unfold rInner; rw [if_pos h]
theorem spt_nm {u r : Nat → Int} (h : u 10 = 1 ∨ u 10 = 2) : sptV u = 1 ∧ sptS u = su u 4 7 ∧ sptR u r = r := by
  have n4 : ¬ u 10 = 40 := by omega
  unfold sptV sptS sptR
  rw [if_neg n4, if_neg n4, if_neg n4, if_pos h, ← jb_t h]
  exact ⟨rfl, rfl, rfl⟩
theorem spt_op {u r : Nat → Int} (h : u 10 = 40) : sptV u = 1 ∧ sptS u = pushS (su u 4 6) ∧ sptR u r = pushR (su u 4 6) r 0 := by
  unfold sptV sptS sptR
  rw [if_pos h, if_pos h, if_pos h]
  exact ⟨rfl, rfl, rfl⟩
theorem spt_no {u : Nat → Int} (h : ¬ (u 10 = 1 ∨ u 10 = 2)) (h2 : u 10 ≠ 40) : sptV u = 0 := by
  unfold sptV
  rw [if_neg h2, ← jb_f h]
theorem push_in {u r : Nat → Int} {v : Int} (h1 : 0 ≤ u 1 ∧ u 1 ≤ 6) (h3 : pushS u 3 = 0) : u 1 < 6 ∧ pushS u = su u 1 (u 1 + 1) ∧ pushR u r v = su r (u 1).toNat v := by
  have h : u 1 < 6 := by
    apply Decidable.byContradiction
    intro q
    rw [pushS, if_neg q, su_s] at h3
    exact absurd h3 (by decide)
  rw [pushS, pushR, if_pos h, if_pos h]
  exact ⟨h, rfl, rfl⟩
theorem go_op {u r : Nat → Int} (h : u 10 = 43 ∨ u 10 = 45 ∨ u 10 = 60) : goV u r = 1 ∧ goS u r = su u 4 6 ∧ goR u r = r := by
  unfold goV goS goR
  rw [if_pos h, if_pos h, if_pos h]
  exact ⟨rfl, rfl, rfl⟩
theorem go_gr {u r : Nat → Int} (h : ¬ (u 10 = 43 ∨ u 10 = 45 ∨ u 10 = 60)) (hr : rInner u r = 0) : goV u r = jb (u 10 = 41) ∧ goS u r = (if u 10 = 41 then endBrS u r else u) ∧ goR u r = r := by
  unfold goV goS goR
  rw [if_neg h, if_neg h, if_neg h, if_pos hr, if_pos hr, if_pos hr]
  exact ⟨rfl, rfl, rfl⟩
theorem go_ar {u r : Nat → Int} (h : ¬ (u 10 = 43 ∨ u 10 = 45 ∨ u 10 = 60)) (hr : rInner u r = 1) : goV u r = (if u 10 = 41 then 1 else jb (u 10 = 44)) ∧ goS u r = (if u 10 = 41 then endBrS u r else if u 10 = 44 then su u 4 6 else u) ∧ goR u r = r := by
  have n0 : ¬ rInner u r = 0 := by omega
  unfold goV goS goR
  rw [if_neg h, if_neg h, if_neg h, if_neg n0, if_neg n0, if_neg n0, if_pos hr, if_pos hr, if_pos hr]
  exact ⟨rfl, rfl, rfl⟩
theorem go_nm {u r : Nat → Int} (h : ¬ (u 10 = 43 ∨ u 10 = 45 ∨ u 10 = 60)) (hr : rInner u r ≠ 0) (hr1 : rInner u r ≠ 1) (h5 : u 5 = 0) : goV u r = jb (u 10 = 59) ∧ goS u r = (if u 10 = 59 then su u 4 0 else u) ∧ goR u r = r := by
  unfold goV goS goR
  rw [if_neg h, if_neg h, if_neg h, if_neg hr, if_neg hr, if_neg hr, if_neg hr1, if_neg hr1, if_neg hr1, if_pos h5, if_pos h5, if_pos h5]
  exact ⟨rfl, rfl, rfl⟩
theorem go_bl {u r : Nat → Int} (h : ¬ (u 10 = 43 ∨ u 10 = 45 ∨ u 10 = 60)) (hr : rInner u r ≠ 0) (hr1 : rInner u r ≠ 1) (h5 : u 5 ≠ 0) : goV u r = jb (u 10 = 123) ∧ goS u r = (if u 10 = 123 then stBlS u else u) ∧ goR u r = (if u 10 = 123 then stBlR u r (if u 5 = 2 then 2 else 4) else r) := by
  unfold goV goS goR
  rw [if_neg h, if_neg h, if_neg h, if_neg hr, if_neg hr, if_neg hr, if_neg hr1, if_neg hr1, if_neg hr1, if_neg h5, if_neg h5, if_neg h5]
  exact ⟨rfl, rfl, rfl⟩
variable {E : jE} {I : jI} {P : jP} {m n : Nat} {a : Nat → Nat} {fk fp : Int}
/-- the contract of part(), where at most L more may stand open -/
def PartP (E : jE) (I : jI) (P : jP) (m n : Nat) (a : Nat → Nat) (fk fp : Int) (L : Nat) : Prop := ∀ (s r : Nat → Int) (ts : List T5) (d : Nat) (st : Int), s 5 = st → Ok s ts → (s 4 = 6 ∨ (s 4 = 5 ∧ tkG (gB I a) n (s 9).toNat ≠ 41)) → 6 - s 1 ≤ (L : Int) → 8 + 2 * L ≤ d → jC E yX7_part cX7_part 2 (some .boolean) d [jp m, ji st] (rfM I m a (mS (gB I a) n fk fp s) ts) P (GQ I m a P n fk fp s r ts (ShE s r ts))
def ShX (g : Nat → Int) (n : Nat) (s r : Nat → Int) (ts : List T5) (s' r' : Nat → Int) (ts' : List T5) : Prop := ShE s r ts s' r' ts' ∧ ¬ (tkG g n (s' 9).toNat = 43 ∨ tkG g n (s' 9).toNat = 45 ∨ tkG g n (s' 9).toNat = 60)
def ExprP (E : jE) (I : jI) (P : jP) (m n : Nat) (a : Nat → Nat) (fk fp : Int) (L : Nat) : Prop := ∀ (s r : Nat → Int) (ts : List T5) (d : Nat) (st : Int), s 5 = st → Ok s ts → (s 4 = 6 ∨ (s 4 = 5 ∧ tkG (gB I a) n (s 9).toNat ≠ 41)) → 6 - s 1 ≤ (L : Int) → 9 + 2 * L ≤ d → jC E yX7_expr cX7_expr 2 (some .boolean) d [jp m, ji st] (rfM I m a (mS (gB I a) n fk fp s) ts) P (GQ I m a P n fk fp s r ts (ShX (gB I a) n s r ts))
theorem expr_loop {L d : Nat} {st : Int} {s r : Nat → Int} {ts : List T5} (hR : RfL E P m a) (hn : I (a 7) 12 = (n : Int)) (hn2 : n ≤ 800) (hg : ∀ k, k < n → 0 ≤ gB I a k ∧ gB I a k ≤ 255) (hp : PartP E I P m n a fk fp L) (hst : s 5 = st) (hL : 6 - s 1 ≤ (L : Int)) (hd : 9 + 2 * L ≤ d) :
    ∀ (k : Nat) (s1 r1 : Nat → Int) (ts1 : List T5), 201 - ts1.length ≤ k → Nn (gB I a) n s r ts = Nn (gB I a) n s1 r1 ts1 → Ok s1 ts1 → ShE s r ts s1 r1 ts1 → jJ E yX7_expr.cls cX7_expr 2 (some .boolean) (jRm d) (jZ E (GQ I m a P n fk fp s r ts (ShX (gB I a) n s r ts))) 0 0 10 [some (jp m), some (ji st)] [] (rfM I m a (mS (gB I a) n fk fp s1) ts1) P := by
  intro k
  induction k with
  | zero =>
    intro s1 r1 ts1 hk e1 o1 h1
    exfalso
    have := o1.2
    omega
  | succ k ih =>
    intro s1 r1 ts1 hk e1 o1 h1
    have go : (tkG (gB I a) n (s1 9).toNat = 43 ∨ tkG (gB I a) n (s1 9).toNat = 45 ∨ tkG (gB I a) n (s1 9).toNat = 60) → jJ E yX7_expr.cls cX7_expr 2 (some .boolean) (jRm d) (jZ E (GQ I m a P n fk fp s r ts (ShX (gB I a) n s r ts))) 0 0 37 [some (jp m), some (ji st)] [] (rfM I m a (mS (gB I a) n fk fp s1) ts1) P := by
      intro hop
      have t7 := std_7 (u := scS (gB I a) n s1) (r := r1) h1.1
      have tg := go_op (u := scS (gB I a) n s1) (r := r1) hop
      rw [tg.1, tg.2.1, tg.2.2] at t7
      refine jJ_aload_n (pc := 37) dX7_expr_37 rfl ?_
      refine jJ_iload_n (pc := 38) dX7_expr_38 rfl ?_
      refine jJ_callG (pc := 39) (as := [_]) dX7_expr_39 mX7_166 (jRcv_of hR.1 rfl rfl) (Nat.le_of_ble_eq_true rfl) (jRm_ok (by omega) (by decide)) (g_come (r := r1) (d := d - 1) hR hn hn2 hg o1 (by rw [t7.1]; decide) (by rw [t7.2.1, ← hst]; exact h1.2.2.2.1) (by rw [t7.2.1]; rfl) (by omega)) (fun s2 r2 ts2 e2 o2 h2 => ?_) (fun σ2 tf2 f2 => ?_)
      · refine jJ_if_eq (pc := 42) (tgt := 53) dX7_expr_42 (by decide) (fun c42 => ?_) (fun c42 => ?_)
        · exact absurd c42 (by decide)
        · have q2 : s2 = su (scS (gB I a) n s1) 4 6 := h2.1.trans t7.2.1
          have q3 : r2 = r1 := h2.2.1.trans t7.2.2
          have q4 : ts2.length = ts1.length + 1 := by rw [h2.2.2]; exact len_app
          refine jJ_aload_n (pc := 45) dX7_expr_45 rfl ?_
          refine jJ_iload_n (pc := 46) dX7_expr_46 rfl ?_
          refine jJ_callG (pc := 47) (as := [_]) dX7_expr_47 mX7_179 (jRcv_of hR.1 rfl rfl) (Nat.le_of_ble_eq_true rfl) (jRm_ok (by omega) (by decide)) (hp s2 r2 ts2 (d - 1) st (by rw [q2, ← hst]; exact h1.2.2.2.1) o2 (Or.inl (by rw [q2]; rfl)) (by rw [q2]; show 6 - s1 1 ≤ (L : Int); rw [h1.2.1]; exact hL) (by omega)) (fun s3 r3 ts3 e3 o3 h3 => ?_) (fun σ3 tf3 f3 => ?_)
          · refine jJ_if_ne (pc := 50) (tgt := 10) dX7_expr_50 (by decide) (fun c50 => ?_) (fun c50 => ?_)
            · obtain ⟨b1, b2, b3, b4, b5, b6, b7⟩ := h3
              obtain ⟨a1, a2, a3, a4, a5, a6, a7⟩ := h1
              rw [q2] at b2 b3 b4 b5 b6
              refine ih s3 r3 ts3 (by omega) (e1.trans (e2.trans e3)) o3 ⟨b1, b2.trans a2, b3.trans a3, b4.trans a4, b5.trans a5, fun j hj => ?_, by omega⟩
              rw [b6 j (by show (j : Int) < s1 1; omega), q3]
              exact a6 j hj
            · exact absurd c50 (by decide)
          · refine jJ_if_ne (pc := 50) (tgt := 10) dX7_expr_50 (by decide) (fun c50 => ?_) (fun c50 => ?_)
            · exact absurd rfl c50
            · refine jJ_iconst (pc := 53) dX7_expr_53 (by decide) ?_
              refine jJ_zret (pc := 54) dX7_expr_54 rfl (Or.inl rfl) ?_
              exact GQ_fail (e1.trans e2) f3
      · refine jJ_if_eq (pc := 42) (tgt := 53) dX7_expr_42 (by decide) (fun c42 => ?_) (fun c42 => ?_)
        · refine jJ_iconst (pc := 53) dX7_expr_53 (by decide) ?_
          refine jJ_zret (pc := 54) dX7_expr_54 rfl (Or.inl rfl) ?_
          exact GQ_fail e1 f2
        · exact absurd rfl c42
    refine jJ_aload_n (pc := 10) dX7_expr_10 rfl ?_
    refine jJ_ldcS (pc := 11) (i := 9) dX7_expr_11 (by decide +kernel) ?_
    refine jJ_callVd (pc := 13) (as := [_]) dX7_expr_13 mX7_132 (jRcv_of hR.1 rfl rfl) (Nat.le_of_ble_eq_true rfl) (jRm_ok (by omega) (by decide)) (r_isT (d := d - 1) (c := 43) (j := (s1 9).toNat) hR hn hn2 (by decide) (by decide) rfl rfl rfl (by omega)) ?_
    refine jJ_if_ne (pc := 16) (tgt := 37) dX7_expr_16 (by decide) (fun c16 => ?_) (fun c16 => ?_)
    · exact go (Or.inl (jb_nz.mp c16))
    · refine jJ_aload_n (pc := 19) dX7_expr_19 rfl ?_
      refine jJ_ldcS (pc := 20) (i := 10) dX7_expr_20 (by decide +kernel) ?_
      refine jJ_callVd (pc := 22) (as := [_]) dX7_expr_22 mX7_132 (jRcv_of hR.1 rfl rfl) (Nat.le_of_ble_eq_true rfl) (jRm_ok (by omega) (by decide)) (r_isT (d := d - 1) (c := 45) (j := (s1 9).toNat) hR hn hn2 (by decide) (by decide) rfl rfl rfl (by omega)) ?_
      refine jJ_if_ne (pc := 25) (tgt := 37) dX7_expr_25 (by decide) (fun c25 => ?_) (fun c25 => ?_)
      · exact go (Or.inr (Or.inl (jb_nz.mp c25)))
      · refine jJ_aload_n (pc := 28) dX7_expr_28 rfl ?_
        refine jJ_ldcS (pc := 29) (i := 11) dX7_expr_29 (by decide +kernel) ?_
        refine jJ_callVd (pc := 31) (as := [_]) dX7_expr_31 mX7_132 (jRcv_of hR.1 rfl rfl) (Nat.le_of_ble_eq_true rfl) (jRm_ok (by omega) (by decide)) (r_isT (d := d - 1) (c := 60) (j := (s1 9).toNat) hR hn hn2 (by decide) (by decide) rfl rfl rfl (by omega)) ?_
        refine jJ_if_eq (pc := 34) (tgt := 55) dX7_expr_34 (by decide) (fun c34 => ?_) (fun c34 => ?_)
        · refine jJ_iconst (pc := 55) dX7_expr_55 (by decide) ?_
          refine jJ_zret (pc := 56) dX7_expr_56 rfl (Or.inr rfl) ?_
          simp only [jb_z] at c16 c25 c34
          exact GQ_ok e1 o1 ⟨h1, by omega⟩
        · exact go (Or.inr (Or.inr (jb_nz.mp c34)))
theorem g_expr_of {L : Nat} (hR : RfL E P m a) (hn : I (a 7) 12 = (n : Int)) (hn2 : n ≤ 800) (hg : ∀ k, k < n → 0 ≤ gB I a k ∧ gB I a k ≤ 255) (hp : PartP E I P m n a fk fp L) : ExprP E I P m n a fk fp L := by
  intro s r ts d st hst hO h4 hL hd
  refine jC_intro (by decide +kernel) (by simp [jc, va_rf, Value.category]) (Nat.le_of_ble_eq_true rfl) ?_
  refine jJ_aload_n (pc := 0) dX7_expr_0 rfl ?_
  refine jJ_iload_n (pc := 1) dX7_expr_1 rfl ?_
  refine jJ_callG (pc := 2) (as := [_]) dX7_expr_2 mX7_179 (jRcv_of hR.1 rfl rfl) (Nat.le_of_ble_eq_true rfl) (jRm_ok (by omega) (by decide)) (hp s r ts (d - 1) st hst hO h4 hL (by omega)) (fun s1 r1 ts1 e1 o1 h1 => ?_) (fun σ1 tf1 f1 => ?_)
  · refine jJ_if_ne (pc := 5) (tgt := 10) dX7_expr_5 (by decide) (fun c5 => ?_) (fun c5 => ?_)
    · exact expr_loop hR hn hn2 hg hp hst hL hd _ s1 r1 ts1 (Nat.le_refl _) e1 o1 h1
    · exact absurd c5 (by decide)
  · refine jJ_if_ne (pc := 5) (tgt := 10) dX7_expr_5 (by decide) (fun c5 => ?_) (fun c5 => ?_)
    · exact absurd rfl c5
    · refine jJ_iconst (pc := 8) dX7_expr_8 (by decide) ?_
      refine jJ_zret (pc := 9) dX7_expr_9 rfl (Or.inl rfl) ?_
      exact GQ_fail rfl f1
/-- part(), by the expr() of one that stands open more -/
theorem g_part_of {L : Nat} (hR : RfL E P m a) (hn : I (a 7) 12 = (n : Int)) (hn2 : n ≤ 800) (hg : ∀ k, k < n → 0 ≤ gB I a k ∧ gB I a k ≤ 255) (hp : ∀ L', L = L' + 1 → ExprP E I P m n a fk fp L') : PartP E I P m n a fk fp L := by
  intro s r ts d st hst hO h4 hL hd
  have t6 := std_6 (u := scS (gB I a) n s) (r := r) h4
  have hz1 : tkG (gB I a) n (s 9).toNat = 8 → tkE (gB I a) n (s 9).toNat = tkS (gB I a) n (s 9).toNat := tk_end
  have hz2 : tkG (gB I a) n (s 9).toNat ≠ 8 → tkS (gB I a) n (s 9).toNat < tkE (gB I a) n (s 9).toNat := fun z => (tk_in z).2.1
  have hz3 := srt_1 (x := tkG (gB I a) n (s 9).toNat)
  have hne : ¬ (s 1 = 0 ∧ (s 4 = 0 ∨ s 4 = 1)) := by omega
  have at22 : (tkG (gB I a) n (s 9).toNat = 1 ∨ tkG (gB I a) n (s 9).toNat = 2) → jJ E yX7_part.cls cX7_part 2 (some .boolean) (jRm d) (jZ E (GQ I m a P n fk fp s r ts (ShE s r ts))) 0 0 22 [some (jp m), some (ji st)] [] (rfM I m a (mS (gB I a) n fk fp s) ts) P := by
    intro hG
    have tg := spt_nm (u := scS (gB I a) n s) (r := r) hG
    rw [tg.1, tg.2.1, tg.2.2] at t6
    refine jJ_aload_n (pc := 22) dX7_part_22 rfl ?_
    refine jJ_iload_n (pc := 23) dX7_part_23 rfl ?_
    refine jJ_callG (pc := 24) (as := [_]) dX7_part_24 mX7_166 (jRcv_of hR.1 rfl rfl) (Nat.le_of_ble_eq_true rfl) (jRm_ok (by omega) (by decide)) (g_come (r := r) (d := d - 1) hR hn hn2 hg hO (by rw [t6.1]; decide) (by rw [t6.2.1]; exact hst) (by rw [t6.2.1]; rfl) (by omega)) (fun s1 r1 ts1 e1 o1 h1 => ?_) (fun σ1 tf1 f1 => ?_)
    · refine jJ_zret (pc := 27) dX7_part_27 rfl (Or.inr rfl) ?_
      have q2 : s1 = su (scS (gB I a) n s) 4 7 := h1.1.trans t6.2.1
      have q3 : r1 = r := h1.2.1.trans t6.2.2
      refine GQ_ok e1 o1 ?_
      rw [h1.2.2, q2, q3]
      exact ⟨rfl, rfl, rfl, rfl, rfl, fun _ _ => rfl, by rw [len_app]; omega⟩
    · refine jJ_zret (pc := 27) dX7_part_27 rfl (Or.inl rfl) ?_
      exact GQ_fail rfl f1
  have at28 : ¬ (tkG (gB I a) n (s 9).toNat = 1 ∨ tkG (gB I a) n (s 9).toNat = 2) → jJ E yX7_part.cls cX7_part 2 (some .boolean) (jRm d) (jZ E (GQ I m a P n fk fp s r ts (ShE s r ts))) 0 0 28 [some (jp m), some (ji st)] [] (rfM I m a (mS (gB I a) n fk fp s) ts) P := by
    intro hG
    obtain ⟨i1, i2, i6, i3, i5, i9⟩ := hO.1
    refine jJ_aload_n (pc := 28) dX7_part_28 rfl ?_
    refine jJ_ldcS (pc := 29) (i := 6) dX7_part_29 (by decide +kernel) ?_
    refine jJ_iload_n (pc := 31) dX7_part_31 rfl ?_
    refine jJ_callG (pc := 32) (as := [_, _]) dX7_part_32 mX7_172 (jRcv_of hR.1 rfl rfl) (Nat.le_of_ble_eq_true rfl) (jRm_ok (by omega) (by decide)) (g_need (r := r) (c := 40) (d := d - 1) hR hn hn2 hg (by decide) (by decide) rfl hO (fun z => by have tg := spt_op (u := scS (gB I a) n s) (r := r) z; rw [t6.1, t6.2.1, tg.1, tg.2.1]; exact ⟨by decide, by unfold pushS; split <;> exact hst, by unfold pushS; split <;> rfl⟩) (fun z => by rw [t6.1]; exact spt_no hG z) hne (by omega)) (fun s1 r1 ts1 e1 o1 h1 => ?_) (fun σ1 tf1 f1 => ?_)
    · refine jJ_if_eq (pc := 35) (tgt := 60) dX7_part_35 (by decide) (fun c35 => ?_) (fun c35 => ?_)
      · exact absurd c35 (by decide)
      · obtain ⟨hG1, q2, q3, q4⟩ := h1
        have tg := spt_op (u := scS (gB I a) n s) (r := r) hG1
        rw [tg.1, tg.2.1, tg.2.2] at t6
        rw [t6.2.1] at q2
        rw [t6.2.2] at q3
        have hp1 := push_in (u := su (scS (gB I a) n s) 4 6) (r := r) (v := 0) i1 (by rw [← q2]; exact o1.1.2.2.2.1)
        rw [hp1.2.1] at q2
        rw [hp1.2.2] at q3
        have hs6 : s 1 < 6 := hp1.1
        have q41 : ts1.length = ts.length + 1 := by rw [q4]; exact len_app
        obtain ⟨L', hL'⟩ : ∃ L', L = L' + 1 := ⟨L - 1, by omega⟩
        have q21 : s1 1 = s 1 + 1 := by rw [q2]; rfl
        have q24 : s1 4 = 6 := by rw [q2]; rfl
        have q25 : s1 5 = s 5 := by rw [q2]; rfl
        have q22 : s1 2 = s 2 := by rw [q2]; rfl
        have q26 : s1 6 = s 6 := by rw [q2]; rfl
        have q3j : ∀ j : Nat, r1 j = if j = (s 1).toNat then 0 else r j := fun j => by rw [q3]; rfl
        refine jJ_aload_n (pc := 38) dX7_part_38 rfl ?_
        refine jJ_iload_n (pc := 39) dX7_part_39 rfl ?_
        refine jJ_callG (pc := 40) (as := [_]) dX7_part_40 mX7_176 (jRcv_of hR.1 rfl rfl) (Nat.le_of_ble_eq_true rfl) (jRm_ok (by omega) (by decide)) (hp L' hL' s1 r1 ts1 (d - 1) st (by rw [q25]; exact hst) o1 (Or.inl q24) (by omega) (by omega)) (fun s2 r2 ts2 e2 o2 h2 => ?_) (fun σ2 tf2 f2 => ?_)
        · refine jJ_if_eq (pc := 43) (tgt := 60) dX7_part_43 (by decide) (fun c43 => ?_) (fun c43 => ?_)
          · exact absurd c43 (by decide)
          · obtain ⟨⟨b4, b1, b2, b5, b6, bj, bl⟩, bo⟩ := h2
            have hri : rInner s2 r2 = 0 := by
              rw [rInner_top (by omega), show (s2 1 - 1).toNat = (s 1).toNat by omega, bj _ (by omega), q3j, if_pos rfl]
            have t7 := std_7 (u := scS (gB I a) n s2) (r := r2) b4
            have tg := go_gr (u := scS (gB I a) n s2) (r := r2) bo hri
            rw [tg.1, tg.2.1, tg.2.2] at t7
            refine jJ_aload_n (pc := 46) dX7_part_46 rfl ?_
            refine jJ_ldcS (pc := 47) (i := 8) dX7_part_47 (by decide +kernel) ?_
            refine jJ_iload_n (pc := 49) dX7_part_49 rfl ?_
            refine jJ_callG (pc := 50) (as := [_, _]) dX7_part_50 mX7_172 (jRcv_of hR.1 rfl rfl) (Nat.le_of_ble_eq_true rfl) (jRm_ok (by omega) (by decide)) (g_need (r := r2) (c := 41) (d := d - 1) hR hn hn2 hg (by decide) (by decide) rfl o2 (fun z => by rw [t7.1, t7.2.1, if_pos (show scS (gB I a) n s2 10 = 41 from z), ← jb_t (show scS (gB I a) n s2 10 = 41 from z)]; exact ⟨by decide, (b5.trans q25).trans hst, rfl⟩) (fun z => by rw [t7.1, ← jb_f (show ¬ scS (gB I a) n s2 10 = 41 from z)]) (by omega) (by omega)) (fun s3 r3 ts3 e3 o3 h3 => ?_) (fun σ3 tf3 f3 => ?_)
            · refine jJ_if_eq (pc := 53) (tgt := 60) dX7_part_53 (by decide) (fun c53 => ?_) (fun c53 => ?_)
              · exact absurd c53 (by decide)
              · obtain ⟨hG3, z2, z3, z4⟩ := h3
                rw [t7.2.1, if_pos (show scS (gB I a) n s2 10 = 41 from hG3)] at z2
                rw [t7.2.2] at z3
                have z41 : ts3.length = ts2.length + 1 := by rw [z4]; exact len_app
                refine jJ_iconst (pc := 56) dX7_part_56 (by decide) ?_
                refine jJ_goto (pc := 57) (tgt := 61) dX7_part_57 (by decide) ?_
                refine jJ_zret (pc := 61) dX7_part_61 rfl (Or.inr rfl) ?_
                refine GQ_ok (e1.trans (e2.trans e3)) o3 ⟨?_, ?_, ?_, ?_, ?_, fun j hj => ?_, by omega⟩
                · rw [z2]; show (if rInner s2 r2 = 1 then (8 : Int) else 7) = 7; rw [hri]; rfl
                · rw [z2]; show s2 1 - 1 = s 1; omega
                · rw [z2]; show s2 2 = s 2; omega
                · rw [z2]; show s2 5 = s 5; omega
                · rw [z2]; show s2 6 = s 6; omega
                · rw [z3, bj j (by omega), q3j, if_neg (by omega)]
            · refine jJ_if_eq (pc := 53) (tgt := 60) dX7_part_53 (by decide) (fun c53 => ?_) (fun c53 => ?_)
              · refine jJ_iconst (pc := 60) dX7_part_60 (by decide) ?_
                refine jJ_zret (pc := 61) dX7_part_61 rfl (Or.inl rfl) ?_
                exact GQ_fail (e1.trans e2) f3
              · exact absurd rfl c53
        · refine jJ_if_eq (pc := 43) (tgt := 60) dX7_part_43 (by decide) (fun c43 => ?_) (fun c43 => ?_)
          · refine jJ_iconst (pc := 60) dX7_part_60 (by decide) ?_
            refine jJ_zret (pc := 61) dX7_part_61 rfl (Or.inl rfl) ?_
            exact GQ_fail e1 f2
          · exact absurd rfl c43
    · refine jJ_if_eq (pc := 35) (tgt := 60) dX7_part_35 (by decide) (fun c35 => ?_) (fun c35 => ?_)
      · refine jJ_iconst (pc := 60) dX7_part_60 (by decide) ?_
        refine jJ_zret (pc := 61) dX7_part_61 rfl (Or.inl rfl) ?_
        exact GQ_fail rfl f1
      · exact absurd rfl c35
  refine jC_intro (by decide +kernel) (by simp [jc, va_rf, Value.category]) (Nat.le_of_ble_eq_true rfl) ?_
  refine jJ_aload_n (pc := 0) dX7_part_0 rfl ?_
  refine jJ_callVd (pc := 1) (as := []) dX7_part_1 mX7_169 (jRcv_of hR.1 rfl rfl) (Nat.le_of_ble_eq_true rfl) (jRm_ok (by omega) (by decide)) (r_isName (d := d - 1) (j := (s 9).toNat) hR hn hn2 rfl rfl rfl (by omega)) ?_
  refine jJ_if_ne (pc := 4) (tgt := 22) dX7_part_4 (by decide) (fun c4 => ?_) (fun c4 => ?_)
  · exact at22 (Or.inl (jb_nz.mp c4))
  · simp only [jb_z] at c4
    have m24 : mS (gB I a) n fk fp s 24 = (tkE (gB I a) n (s 9).toNat : Int) - (tkS (gB I a) n (s 9).toNat : Int) := rfl
    have m25 : mS (gB I a) n fk fp s 25 = srt (tkG (gB I a) n (s 9).toNat) := rfl
    refine jJ_aload_n (pc := 7) dX7_part_7 rfl ?_
    refine jJ_geti (pc := 8) dX7_part_8 fX7_98 rfl hR.1 ?_
    try simp only [rfM_g24, m24]
    refine jJ_if_le (pc := 11) (tgt := 28) dX7_part_11 (by decide) (fun c11 => ?_) (fun c11 => ?_)
    · exact at28 (by omega)
    · refine jJ_aload_n (pc := 14) dX7_part_14 rfl ?_
      refine jJ_geti (pc := 15) dX7_part_15 fX7_101 rfl hR.1 ?_
      try simp only [rfM_g25, m25]
      refine jJ_iconst (pc := 18) dX7_part_18 (by decide) ?_
      refine jJ_icmp_ne (pc := 19) (tgt := 28) dX7_part_19 (by decide) (fun c19 => ?_) (fun c19 => ?_)
      · exact at28 (by omega)
      · exact at22 (by omega)
theorem g_expr (hR : RfL E P m a) (hn : I (a 7) 12 = (n : Int)) (hn2 : n ≤ 800) (hg : ∀ k, k < n → 0 ≤ gB I a k ∧ gB I a k ≤ 255) : ∀ L : Nat, ExprP E I P m n a fk fp L := by
  intro L
  induction L with
  | zero => exact g_expr_of hR hn hn2 hg (g_part_of hR hn hn2 hg (fun L' h => absurd h (by omega)))
  | succ L ih => exact g_expr_of hR hn hn2 hg (g_part_of hR hn hn2 hg (fun L' h => by cases h; exact ih))
end JRX
