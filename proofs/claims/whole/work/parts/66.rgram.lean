section JRGp
variable {g : Nat → Int} {n : Nat} {s r u : Nat → Int} {ts : List T5}
def K89 (u v : Nat → Int) : Prop := v 8 = u 8 ∧ v 9 = u 9 ∧ v 10 = u 10
theorem K89_ite {p : Prop} [Decidable p] {u x y : Nat → Int} (hx : K89 u x) (hy : K89 u y) : K89 u (if p then x else y) := by split <;> assumption
theorem std_89 (u r : Nat → Int) : K89 u (stdS u r) := by
  unfold stdS sptS goS stmS endBrS endBlS stBlS pushS ownS
  repeat' (first | apply K89_ite | exact ⟨rfl, rfl, rfl⟩)
theorem std_at8 (h : u 10 = 8) : stdV u r = 0 := by
  unfold stdV sptV goV stmV
  simp [h, jb]
/-- the reading from here on -/
def Nn (g : Nat → Int) (n : Nat) (s r : Nat → Int) (ts : List T5) : RdRes := rdGo g n (201 - ts.length) s r ts
def Ok (s : Nat → Int) (ts : List T5) : Prop := RdI ts.length s ∧ ts.length ≤ 200
theorem Nn_step (hl : ts.length ≤ 200) (hv : stdV (scS g n s) r ≠ 0) (ht : tooB ts.length (stdS (scS g n s) r) = false) : Nn g n s r ts = Nn g n (stdS (scS g n s) r) (stdR (scS g n s) r) (ts ++ [tokOf (stdS (scS g n s) r)]) := by
  have h8 : scS g n s 10 ≠ 8 := fun z => hv (std_at8 z)
  unfold Nn
  rw [show 201 - ts.length = (200 - ts.length) + 1 by omega, rdGo, if_neg h8, if_neg hv, if_neg (by simp [ht]), List.length_append, List.length_cons, List.length_nil, show 201 - (ts.length + (0 + 1)) = 200 - ts.length by omega]
theorem Nn_too (hl : ts.length ≤ 200) (hv : stdV (scS g n s) r ≠ 0) (ht : tooB ts.length (stdS (scS g n s) r) = true) : (Nn g n s r ts).1 = 2 ∧ (Nn g n s r ts).2.1 7 = (tkS g n (s 9).toNat : Int) := by
  have h8 : scS g n s 10 ≠ 8 := fun z => hv (std_at8 z)
  unfold Nn
  rw [show 201 - ts.length = (200 - ts.length) + 1 by omega, rdGo, if_neg h8, if_neg hv, if_pos ht]
  exact ⟨rfl, (std_89 _ _).1⟩
theorem Nn_wrong (hl : ts.length ≤ 200) (hv : stdV (scS g n s) r = 0) (he : tkG g n (s 9).toNat = 8 → ¬ (s 1 = 0 ∧ (s 4 = 0 ∨ s 4 = 1))) : (Nn g n s r ts).1 = 1 ∧ (Nn g n s r ts).2.1 7 = (tkS g n (s 9).toNat : Int) := by
  unfold Nn
  rw [show 201 - ts.length = (200 - ts.length) + 1 by omega, rdGo]
  by_cases h8 : scS g n s 10 = 8
  · rw [if_pos h8, if_neg (show ¬ (scS g n s 1 = 0 ∧ (scS g n s 4 = 0 ∨ scS g n s 4 = 1)) from he h8)]
    exact ⟨rfl, rfl⟩
  · rw [if_neg h8, if_pos hv]
    exact ⟨rfl, (std_89 _ _).1⟩
theorem std_6 (h : u 4 = 6 ∨ (u 4 = 5 ∧ u 10 ≠ 41)) : stdV u r = sptV u ∧ stdS u r = sptS u ∧ stdR u r = sptR u r := by
  rcases h with h | ⟨h, h2⟩ <;> simp_all [stdV, stdS, stdR]
theorem std_5c (h : u 4 = 5) (h2 : u 10 = 41) : stdV u r = 1 ∧ stdS u r = endBrS u r ∧ stdR u r = r := by simp [stdV, stdS, stdR, h, h2]
theorem std_7 (h : u 4 = 7) : stdV u r = goV u r ∧ stdS u r = goS u r ∧ stdR u r = goR u r := by simp [stdV, stdS, stdR, h]
theorem std_2 (h : u 4 = 2) : stdV u r = jb (u 10 = 61) ∧ stdS u r = (if u 10 = 61 then su u 4 6 else u) ∧ stdR u r = r := by simp [stdV, stdS, stdR, h]
theorem std_3 (h : u 4 = 3) : stdV u r = jb (u 10 = 1) ∧ stdS u r = (if u 10 = 1 then su u 4 4 else u) ∧ stdR u r = r := by simp [stdV, stdS, stdR, h]
theorem std_4 (h : u 4 = 4) : stdV u r = jb (u 10 = 40) ∧ stdS u r = (if u 10 = 40 then pushS (su u 4 5) else u) ∧ stdR u r = (if u 10 = 40 then pushR (su u 4 5) r 1 else r) := by simp [stdV, stdS, stdR, h]
theorem std_8 (h : u 4 = 8) : stdV u r = jb (u 10 = 59) ∧ stdS u r = (if u 10 = 59 then su u 4 0 else u) ∧ stdR u r = r := by simp [stdV, stdS, stdR, h]
theorem std_9 (h : u 4 = 9) : stdV u r = jb (u 10 = 123) ∧ stdS u r = (if u 10 = 123 then stBlS u else u) ∧ stdR u r = (if u 10 = 123 then stBlR u r 3 else r) := by simp [stdV, stdS, stdR, h]
theorem std_0 (h : u 4 = 0 ∨ u 4 = 1) : stdV u r = stmV u r ∧ stdS u r = stmS u r ∧ stdR u r = r := by
  rcases h with h | h <;> simp [stdV, stdS, stdR, h]
theorem rInner_cg {s s' r r' : Nat → Int} (h1 : s' 1 = s 1) (hr : ∀ j : Nat, (j : Int) < s 1 → r' j = r j) : rInner s' r' = rInner s r := by
  unfold rInner
  rw [h1]
  by_cases q : 0 < s 1 ∧ s 1 ≤ 6
  · rw [if_pos q, if_pos q, hr _ (by omega)]
  · rw [if_neg q, if_neg q]
theorem sc1 : scS g n s 1 = s 1 := rfl
theorem sc2 : scS g n s 2 = s 2 := rfl
theorem sc3 : scS g n s 3 = s 3 := rfl
theorem sc4 : scS g n s 4 = s 4 := rfl
theorem sc5 : scS g n s 5 = s 5 := rfl
theorem sc6 : scS g n s 6 = s 6 := rfl
theorem rInner_sc : rInner (scS g n s) r = rInner s r := rfl
/-- behind a PART or an EXPR -/
def ShE (s r : Nat → Int) (ts : List T5) (s' r' : Nat → Int) (ts' : List T5) : Prop := s' 4 = 7 ∧ s' 1 = s 1 ∧ s' 2 = s 2 ∧ s' 5 = s 5 ∧ s' 6 = s 6 ∧ (∀ j : Nat, (j : Int) < s 1 → r' j = r j) ∧ ts.length < ts'.length
theorem ShE.tr {s r s1 r1 s2 r2 : Nat → Int} {ts ts1 ts2 : List T5} (h1 : ShE s r ts s1 r1 ts1) (h2 : ShE s1 r1 ts1 s2 r2 ts2) : ShE s r ts s2 r2 ts2 := by
  obtain ⟨a1, a2, a3, a4, a5, a6, a7⟩ := h1
  obtain ⟨b1, b2, b3, b4, b5, b6, b7⟩ := h2
  exact ⟨b1, b2.trans a2, b3.trans a3, b4.trans a4, b5.trans a5, fun j hj => (b6 j (by omega)).trans (a6 j hj), by omega⟩
theorem len_app {ts : List T5} {t : T5} : (ts ++ [t]).length = ts.length + 1 := by simp
end JRGp
section JRG
variable {E : jE} {I : jI} {P : jP} {d m n : Nat} {a : Nat → Nat} {s r : Nat → Int} {ts : List T5} {fk fp : Int}
theorem jC_mono {y : MethodName} {cc : ByteArray} {k : Nat} {rt : Option FieldType} {as : List jV} {Q Q' : Option jV → jI → jP → Prop} (h : jC E y cc k rt d as I P Q) (hq : ∀ v I' P', Q v I' P' → Q' v I' P') : jC E y cc k rt d as I P Q' := by
  intro hr p e a1 a2 a3 s m args below b1 b2 b3 b4
  obtain ⟨k, o, c1, c2, c3, ⟨⟨r, I', P', e1, e2, e3, e4⟩, h4⟩, h5⟩ := h hr p e a1 a2 a3 s m args below b1 b2 b3 b4
  exact ⟨k, o, c1, c2, c3, ⟨⟨r, I', P', e1, e2, hq _ _ _ e3, e4⟩, h4⟩, h5⟩
/-- a FAULT was found, just that of the reading -/
def GF (fk fp : Int) (w : RdRes) (σ : Nat → Int) : Prop := w.1 ≠ 0 ∧ σ 3 = (if fk = 0 then w.1 else fk) ∧ σ 4 = (if fk = 0 then w.2.1 7 else fp)
/-- what comes of a rule of the grammar: the reader goes on from another state, or the FAULT stands -/
def GQ (I : jI) (m : Nat) (a : Nat → Nat) (P : jP) (n : Nat) (fk fp : Int) (s r : Nat → Int) (ts : List T5) (Sh : (Nat → Int) → (Nat → Int) → List T5 → Prop) : Option jV → jI → jP → Prop := fun v I' P' => P' = P ∧ ((v = some (ji 1) ∧ ∃ s' r' ts', Nn (gB I a) n s r ts = Nn (gB I a) n s' r' ts' ∧ Ok s' ts' ∧ Sh s' r' ts' ∧ I' = rfM I m a (mS (gB I a) n fk fp s') ts') ∨ (v = some (ji 0) ∧ ∃ σ ts', GF fk fp (Nn (gB I a) n s r ts) σ ∧ I' = rfM I m a σ ts'))
theorem GQ_fail {s' r' σ : Nat → Int} {ts' tf : List T5} {Sh : (Nat → Int) → (Nat → Int) → List T5 → Prop} (e : Nn (gB I a) n s r ts = Nn (gB I a) n s' r' ts') (f : GF fk fp (Nn (gB I a) n s' r' ts') σ) : GQ I m a P n fk fp s r ts Sh (some (ji 0)) (rfM I m a σ tf) P := ⟨rfl, Or.inr ⟨rfl, σ, tf, e ▸ f, rfl⟩⟩
theorem GQ_ok {s' r' : Nat → Int} {ts' : List T5} {Sh : (Nat → Int) → (Nat → Int) → List T5 → Prop} (e : Nn (gB I a) n s r ts = Nn (gB I a) n s' r' ts') (o : Ok s' ts') (h : Sh s' r' ts') : GQ I m a P n fk fp s r ts Sh (some (ji 1)) (rfM I m a (mS (gB I a) n fk fp s') ts') P := ⟨rfl, Or.inl ⟨rfl, s', r', ts', e, o, h, rfl⟩⟩
theorem jJ_callG {own : String} {cc : ByteArray} {nL : Nat} {rt : Option FieldType} {R : Room} {Z : Code → List Frame → Array Value → State → State → Prop} {cs ss pc : Nat} {ls : List (Option jV)} {st : List jV} {I0 : jI} {idx n2 d b : Nat} {C : String} {y : MethodName} {c2 : ByteArray} {rt2 : Option FieldType} {as : List jV} {Sh : (Nat → Int) → (Nat → Int) → List T5 → Prop} (hd : decode cc pc = .ok (.invokevirtual idx, 3)) (hM : jMv own idx C y c2 n2 rt2 as.length) (hrc : jRcv E C b) (hst : (st.map (fun v => (jc v).category)).sum ≤ 8) (hR : d + 1 ≤ R.frames ∧ 8 + (n2 + 11) + 60 * d ≤ R.locals ∧ cs ≤ R.cells ∧ ss ≤ R.slots)
    (hC : jC E y c2 n2 rt2 d (jp b :: as) I0 P (GQ I m a P n fk fp s r ts Sh))
    (k1 : ∀ s' r' ts', Nn (gB I a) n s r ts = Nn (gB I a) n s' r' ts' → Ok s' ts' → Sh s' r' ts' → jJ E own cc nL rt R Z cs ss (pc + 3) ls (ji 1 :: st) (rfM I m a (mS (gB I a) n fk fp s') ts') P)
    (k0 : ∀ σ tf, GF fk fp (Nn (gB I a) n s r ts) σ → jJ E own cc nL rt R Z cs ss (pc + 3) ls (ji 0 :: st) (rfM I m a σ tf) P) : jJ E own cc nL rt R Z cs ss pc ls (as.reverse ++ jp b :: st) I0 P :=
  jJ_callV hd hM hrc hst hR hC (fun v I' P' hq => by
    obtain ⟨rfl, ⟨rfl, s', r', ts', e1, e2, e3, rfl⟩ | ⟨rfl, σ, tf, e1, rfl⟩⟩ := hq
    · exact k1 s' r' ts' e1 e2 e3
    · exact k0 σ tf e1)
/-- one TOKEN further -/
def ShS (g : Nat → Int) (n : Nat) (s r : Nat → Int) (ts : List T5) (s' r' : Nat → Int) (ts' : List T5) : Prop := s' = stdS (scS g n s) r ∧ r' = stdR (scS g n s) r ∧ ts' = ts ++ [tokOf s']
theorem g_comes {st : Int} (hR : RfL E P m a) (hn : I (a 7) 12 = (n : Int)) (hn2 : n ≤ 800) (hg : ∀ k, k < n → 0 ≤ gB I a k ∧ gB I a k ≤ 255) (hO : Ok s ts) (hv : stdV (scS (gB I a) n s) r ≠ 0) (hst : stdS (scS (gB I a) n s) r 5 = st) (hd : 6 ≤ d) :
    jC E yX7_comes cX7_comes 4 (some .boolean) d [jp m, ji st] (rfM I m a (su (mS (gB I a) n fk fp s) 10 (stdS (scS (gB I a) n s) r 6)) ts) P (GQ I m a P n fk fp s r ts (ShS (gB I a) n s r ts)) := by
  obtain ⟨hI, hl⟩ := hO
  have hI' := hI
  obtain ⟨h1, h2, h6, h3, h5, h9⟩ := hI'
  have h89 := std_89 (scS (gB I a) n s) r
  refine jC_mono (r_comes hR hn hn2 hg h9 h1 (by omega) hl (Sp_std h1 h3 hv) h89.1 h89.2.1 h89.2.2 hst hd) ?_
  rintro v I' P' ⟨rfl, ⟨rfl, ht, rfl⟩ | ⟨rfl, ht, rfl⟩⟩
  · have hr := RdI_std (n := ts.length) (RdI_sc (f := gB I a) hI hn2) hv (by simp [ht])
    refine GQ_ok (Nn_step hl hv ht) ⟨by rw [len_app]; exact hr, ?_⟩ ⟨rfl, rfl, rfl⟩
    rw [len_app]
    unfold tooB at ht
    rw [decide_eq_false_iff_not] at ht
    omega
  · obtain ⟨t1, t2⟩ := Nn_too hl hv ht
    refine ⟨rfl, Or.inr ⟨rfl, _, _, ⟨by rw [t1]; decide, ?_, ?_⟩, rfl⟩⟩
    · rw [t1]
      unfold wrF
      by_cases q : fk = 0
      · rw [if_pos (show su (mS (gB I a) n fk fp s) 10 (stdS (scS (gB I a) n s) r 6) 3 = 0 from q), if_pos q]; rfl
      · rw [if_neg (show ¬ su (mS (gB I a) n fk fp s) 10 (stdS (scS (gB I a) n s) r 6) 3 = 0 from q), if_neg q]; rfl
    · rw [t2]
      unfold wrF
      by_cases q : fk = 0
      · rw [if_pos (show su (mS (gB I a) n fk fp s) 10 (stdS (scS (gB I a) n s) r 6) 3 = 0 from q), if_pos q]; rfl
      · rw [if_neg (show ¬ su (mS (gB I a) n fk fp s) 10 (stdS (scS (gB I a) n s) r 6) 3 = 0 from q), if_neg q]; rfl
theorem mS_10 {g : Nat → Int} {v : Int} (h : v = s 6) : rfM I m a (su (mS g n fk fp s) 10 v) ts = rfM I m a (mS g n fk fp s) ts := by
  refine rfM_cg (fun k hk => ?_)
  rw [su_at]
  split
  · next q => rw [q, h]; rfl
  · rfl
theorem g_come {st : Int} (hR : RfL E P m a) (hn : I (a 7) 12 = (n : Int)) (hn2 : n ≤ 800) (hg : ∀ k, k < n → 0 ≤ gB I a k ∧ gB I a k ≤ 255) (hO : Ok s ts) (hv : stdV (scS (gB I a) n s) r ≠ 0) (hst : stdS (scS (gB I a) n s) r 5 = st) (h6 : stdS (scS (gB I a) n s) r 6 = s 6) (hd : 6 ≤ d) :
    jC E yX7_comes cX7_comes 4 (some .boolean) d [jp m, ji st] (rfM I m a (mS (gB I a) n fk fp s) ts) P (GQ I m a P n fk fp s r ts (ShS (gB I a) n s r ts)) := by
  have k := g_comes (fk := fk) (fp := fp) (d := d) hR hn hn2 hg hO hv hst hd
  rw [mS_10 h6] at k
  exact k
theorem g_wrong {Sh : (Nat → Int) → (Nat → Int) → List T5 → Prop} (hR : RfL E P m a) (hO : Ok s ts) (hv : stdV (scS (gB I a) n s) r = 0) (he : tkG (gB I a) n (s 9).toNat = 8 → ¬ (s 1 = 0 ∧ (s 4 = 0 ∨ s 4 = 1))) :
    jC E yX7_wrong cX7_wrong 2 (some .boolean) d [jp m, ji 1] (rfM I m a (mS (gB I a) n fk fp s) ts) P (GQ I m a P n fk fp s r ts Sh) := by
  refine jC_mono (r_wrR hR) ?_
  rintro v I' P' ⟨rfl, rfl, rfl⟩
  obtain ⟨t1, t2⟩ := Nn_wrong hO.2 hv he
  refine ⟨rfl, Or.inr ⟨rfl, _, _, ⟨by rw [t1]; decide, ?_, ?_⟩, rfl⟩⟩
  · rw [t1]
    unfold wrF
    by_cases q : fk = 0
    · rw [if_pos (show mS (gB I a) n fk fp s 3 = 0 from q), if_pos q]; rfl
    · rw [if_neg (show ¬ mS (gB I a) n fk fp s 3 = 0 from q), if_neg q]; rfl
  · rw [t2]
    unfold wrF
    by_cases q : fk = 0
    · rw [if_pos (show mS (gB I a) n fk fp s 3 = 0 from q), if_pos q]; rfl
    · rw [if_neg (show ¬ mS (gB I a) n fk fp s 3 = 0 from q), if_neg q]; rfl
theorem g_need {i : Nat} {c st : Int} (hR : RfL E P m a) (hn : I (a 7) 12 = (n : Int)) (hn2 : n ≤ 800) (hg : ∀ k, k < n → 0 ≤ gB I a k ∧ gB I a k ≤ 255) (hi : i < 15) (h4 : i ≠ 4) (hc : sgc i = c) (hO : Ok s ts) (hyes : tkG (gB I a) n (s 9).toNat = c → stdV (scS (gB I a) n s) r ≠ 0 ∧ stdS (scS (gB I a) n s) r 5 = st ∧ stdS (scS (gB I a) n s) r 6 = s 6) (hno : tkG (gB I a) n (s 9).toNat ≠ c → stdV (scS (gB I a) n s) r = 0) (he : ¬ (s 1 = 0 ∧ (s 4 = 0 ∨ s 4 = 1))) (hd : 7 ≤ d) :
    jC E yX7_need cX7_need 3 (some .boolean) d [jp m, jp (eSk E i), ji st] (rfM I m a (mS (gB I a) n fk fp s) ts) P (GQ I m a P n fk fp s r ts (fun s' r' ts' => tkG (gB I a) n (s 9).toNat = c ∧ ShS (gB I a) n s r ts s' r' ts')) := by
  refine jC_intro (by decide +kernel) (by simp [jc, va_rf, Value.category]) (Nat.le_of_ble_eq_true rfl) ?_
  refine jJ_aload_n (pc := 0) dX7_need_0 rfl ?_
  refine jJ_aload_n (pc := 1) dX7_need_1 rfl ?_
  refine jJ_callVd (pc := 2) (as := [_]) dX7_need_2 mX7_132 (jRcv_of hR.1 rfl rfl) (Nat.le_of_ble_eq_true rfl) (jRm_ok (by omega) (by decide)) (r_isT (d := d - 1) (c := c) (j := (s 9).toNat) hR hn hn2 hi h4 hc rfl rfl (by omega)) ?_
  refine jJ_if_eq (pc := 5) (tgt := 16) dX7_need_5 (by decide) (fun c5 => ?_) (fun c5 => ?_)
  · simp only [jb_z] at c5
    refine jJ_aload_n (pc := 16) dX7_need_16 rfl ?_
    refine jJ_iconst (pc := 17) dX7_need_17 (by decide) ?_
    refine jJ_callG (pc := 18) (as := [_]) dX7_need_18 mX7_146 (jRcv_of hR.1 rfl rfl) (Nat.le_of_ble_eq_true rfl) (jRm_ok (by omega) (by decide)) (g_wrong (d := d - 1) (Sh := fun _ _ _ => False) hR hO (hno c5) (fun _ => he)) (fun s1 r1 ts1 e1 o1 h1 => ?_) (fun σ1 tf1 f1 => ?_)
    · exact absurd h1 id
    · refine jJ_zret (pc := 21) dX7_need_21 rfl (Or.inl rfl) ?_
      exact GQ_fail rfl f1
  · simp only [jb_nz] at c5
    obtain ⟨y1, y2, y3⟩ := hyes c5
    refine jJ_aload_n (pc := 8) dX7_need_8 rfl ?_
    refine jJ_iload_n (pc := 9) dX7_need_9 rfl ?_
    refine jJ_callG (pc := 10) (as := [_]) dX7_need_10 mX7_166 (jRcv_of hR.1 rfl rfl) (Nat.le_of_ble_eq_true rfl) (jRm_ok (by omega) (by decide)) (g_come (d := d - 1) hR hn hn2 hg hO y1 y2 y3 (by omega)) (fun s1 r1 ts1 e1 o1 h1 => ?_) (fun σ1 tf1 f1 => ?_)
    · refine jJ_goto (pc := 13) (tgt := 21) dX7_need_13 (by decide) ?_
      refine jJ_zret (pc := 21) dX7_need_21 rfl (Or.inr rfl) ?_
      exact GQ_ok e1 o1 ⟨c5, h1⟩
    · refine jJ_goto (pc := 13) (tgt := 21) dX7_need_13 (by decide) ?_
      refine jJ_zret (pc := 21) dX7_need_21 rfl (Or.inl rfl) ?_
      exact GQ_fail rfl f1
theorem g_name {st : Int} (hR : RfL E P m a) (hn : I (a 7) 12 = (n : Int)) (hn2 : n ≤ 800) (hg : ∀ k, k < n → 0 ≤ gB I a k ∧ gB I a k ≤ 255) (hO : Ok s ts) (hyes : tkG (gB I a) n (s 9).toNat = 1 → stdV (scS (gB I a) n s) r ≠ 0 ∧ stdS (scS (gB I a) n s) r 5 = st ∧ stdS (scS (gB I a) n s) r 6 = s 6) (hno : tkG (gB I a) n (s 9).toNat ≠ 1 → stdV (scS (gB I a) n s) r = 0) (he : ¬ (s 1 = 0 ∧ (s 4 = 0 ∨ s 4 = 1))) (hd : 7 ≤ d) :
    jC E yX7_name cX7_name 2 (some .boolean) d [jp m, ji st] (rfM I m a (mS (gB I a) n fk fp s) ts) P (GQ I m a P n fk fp s r ts (fun s' r' ts' => tkG (gB I a) n (s 9).toNat = 1 ∧ ShS (gB I a) n s r ts s' r' ts')) := by
  refine jC_intro (by decide +kernel) (by simp [jc, va_rf, Value.category]) (Nat.le_of_ble_eq_true rfl) ?_
  refine jJ_aload_n (pc := 0) dX7_name_0 rfl ?_
  refine jJ_callVd (pc := 1) (as := []) dX7_name_1 mX7_169 (jRcv_of hR.1 rfl rfl) (Nat.le_of_ble_eq_true rfl) (jRm_ok (by omega) (by decide)) (r_isName (d := d - 1) (j := (s 9).toNat) hR hn hn2 rfl rfl rfl (by omega)) ?_
  refine jJ_if_eq (pc := 4) (tgt := 15) dX7_name_4 (by decide) (fun c4 => ?_) (fun c4 => ?_)
  · simp only [jb_z] at c4
    refine jJ_aload_n (pc := 15) dX7_name_15 rfl ?_
    refine jJ_iconst (pc := 16) dX7_name_16 (by decide) ?_
    refine jJ_callG (pc := 17) (as := [_]) dX7_name_17 mX7_146 (jRcv_of hR.1 rfl rfl) (Nat.le_of_ble_eq_true rfl) (jRm_ok (by omega) (by decide)) (g_wrong (d := d - 1) (Sh := fun _ _ _ => False) hR hO (hno c4) (fun _ => he)) (fun s1 r1 ts1 e1 o1 h1 => ?_) (fun σ1 tf1 f1 => ?_)
    · exact absurd h1 id
    · refine jJ_zret (pc := 20) dX7_name_20 rfl (Or.inl rfl) ?_
      exact GQ_fail rfl f1
  · simp only [jb_nz] at c4
    obtain ⟨y1, y2, y3⟩ := hyes c4
    refine jJ_aload_n (pc := 7) dX7_name_7 rfl ?_
    refine jJ_iload_n (pc := 8) dX7_name_8 rfl ?_
    refine jJ_callG (pc := 9) (as := [_]) dX7_name_9 mX7_166 (jRcv_of hR.1 rfl rfl) (Nat.le_of_ble_eq_true rfl) (jRm_ok (by omega) (by decide)) (g_come (d := d - 1) hR hn hn2 hg hO y1 y2 y3 (by omega)) (fun s1 r1 ts1 e1 o1 h1 => ?_) (fun σ1 tf1 f1 => ?_)
    · refine jJ_goto (pc := 12) (tgt := 20) dX7_name_12 (by decide) ?_
      refine jJ_zret (pc := 20) dX7_name_20 rfl (Or.inr rfl) ?_
      exact GQ_ok e1 o1 ⟨c4, h1⟩
    · refine jJ_goto (pc := 12) (tgt := 20) dX7_name_12 (by decide) ?_
      refine jJ_zret (pc := 20) dX7_name_20 rfl (Or.inl rfl) ?_
      exact GQ_fail rfl f1
end JRG
