section JFind
variable {E : jE} {I : jI} {P : jP} {d : Nat} {h : Nat}
/-- the first k tallies are cleared -/
def clM (J : jI) (u : Nat → Nat → Nat) : Nat → jI
  | 0 => J
  | k + 1 => filM (filM (clM J u k) (u k 0) 3 0) (u k 1) 300 0
theorem clM_x {J : jI} {u : Nat → Nat → Nat} {a : Nat} (ha : ¬ taS u a) : ∀ k, k ≤ 16 → clM J u k a = J a
  | 0, _ => rfl
  | k + 1, hk => by
    funext j
    rw [clM, filM_x (fun z => ha ⟨k, 1, by omega, by decide, z⟩), filM_x (fun z => ha ⟨k, 0, by omega, by decide, z⟩), clM_x ha k (by omega)]
theorem clM_0 {J : jI} {u : Nat → Nat → Nat} (hu : TaD u) : ∀ k, k ≤ 16 → ∀ l, l < k → (∀ j, j < 3 → clM J u k (u l 0) j = 0) ∧ (∀ j, j < 300 → clM J u k (u l 1) j = 0)
  | 0, _, l, hl => absurd hl (by omega)
  | k + 1, hk, l, hl => by
    have n01 : u k 0 ≠ u k 1 := fun z => by have := hu k k 0 1 (by omega) (by omega) (by decide) (by decide) z; omega
    by_cases e : l = k
    · subst e
      refine ⟨fun j hj => ?_, fun j hj => ?_⟩
      · rw [clM, filM_x n01]; simp [filM, hj]
      · rw [clM]; simp [filM, hj]
    · obtain ⟨g0, g1⟩ := clM_0 (J := J) hu k (by omega) l (by omega)
      refine ⟨fun j hj => ?_, fun j hj => ?_⟩
      · rw [clM, filM_x (fun z => e (hu l k 0 1 (by omega) (by omega) (by decide) (by decide) z).1), filM_x (fun z => e (hu l k 0 0 (by omega) (by omega) (by decide) (by decide) z).1)]
        exact g0 j hj
      · rw [clM, filM_x (fun z => e (hu l k 1 1 (by omega) (by omega) (by decide) (by decide) z).1), filM_x (fun z => e (hu l k 1 0 (by omega) (by omega) (by decide) (by decide) z).1)]
        exact g1 j hj
/-- the gaps of the k TEXTS from t on are counted -/
def tsM (I : jI) (x : Nat → Nat) (q : Nat → Nat → Nat) (u : Nat → Nat → Nat) : Nat → Nat → jI → jI
  | _, 0, J => J
  | t, k + 1, J => tsM I x q u (t + 1) k (if I (x t) 8 ≠ 0 then tgM J (I (q t 6)) (fun g => tstV (I (q t 5) g) (I (x t) 10) (I (q t 4) (g + 1))) (I (q t 7)) u 0 (gapsN (I (x t) 11)) else J)
theorem tgM_x {kd tst ch : Nat → Int} {u : Nat → Nat → Nat} {a : Nat} (ha : ¬ taS u a) : ∀ (k g : Nat) (J : jI), (∀ i, i < g + k → 0 ≤ kd i ∧ kd i ≤ 15) → tgM J kd tst ch u g k a = J a
  | 0, g, J, _ => rfl
  | k + 1, g, J, hk => by
    have hg := hk g (by omega)
    rw [tgM, tgM_x ha k (g + 1) _ (fun i hi => hk i (by omega))]
    funext j
    exact cntM_x (fun z => ha ⟨_, 0, by omega, by decide, z⟩) (fun z => ha ⟨_, 1, by omega, by decide, z⟩) 3 j
theorem tgM_taB {kd tst ch : Nat → Int} {u : Nat → Nat → Nat} (hu : TaD u) : ∀ (k g : Nat) (J : jI) (B : Int), (∀ i, i < g + k → 0 ≤ kd i ∧ kd i ≤ 15) → taB J u B → taB (tgM J kd tst ch u g k) u (B + 3 * k)
  | 0, g, J, B, _, hB => by simpa [tgM] using hB
  | k + 1, g, J, B, hk, hB => by
    have hg := hk g (by omega)
    have h1 := tgM_taB (kd := kd) (tst := tst) (ch := ch) hu k (g + 1) _ (B + 3) (fun i hi => hk i (by omega)) (cntM_taB (kd := kd g) (bits := tst g) (ch := ch g) (l := (kd g).toNat) hu (by omega) hB)
    rw [tgM, show B + 3 * ((k + 1 : Nat) : Int) = B + 3 + 3 * (k : Int) by omega]
    exact h1
/-- what is seen at a TEXT's gaps -/
def TxG (I : jI) (x : Nat) (q : Nat → Nat) : Prop := (0 ≤ I x 11 ∧ I x 11 ≤ 200) ∧ (∀ g, g < gapsN (I x 11) → 0 ≤ I (q 6) g ∧ I (q 6) g ≤ 15) ∧ (∀ g, g < gapsN (I x 11) → 0 ≤ I (q 5) g ∧ I (q 5) g ≤ 3) ∧ (0 ≤ I x 10 ∧ I x 10 ≤ 3)
theorem tallyAll_2 {tl tx : Nat} {t : Nat → Nat} {u : Nat → Nat → Nat} {x : Nat → Nat} {q : Nat → Nat → Nat} (h0 : jK E 6 h) (hTa : TaL E P h tl t u) (hu : TaD u) (hT : TsL E P h tx x q) (hqu : ∀ t, t < 12 → ∀ i, i ≤ 7 → ¬ taS u (q t i)) (hxu : ∀ t, t < 12 → ¬ taS u (x t)) (hI : ∀ t, t < 12 → I (x t) 8 ≠ 0 → TxG I (x t) (q t)) (hd : 3 ≤ d) :
    ∀ (k i : Nat) (J : jI), i + k = 12 → (∀ a, ¬ taS u a → J a = I a) → taB J u (600 * i) → jJ E yX6_tallyAllTexts.cls cX6_tallyAllTexts 2 none (jRm d) (jZ E (jD none (tsM I x q u i k J) P)) 0 0 25 [some (jp h), some (ji (i : Int))] [] J P := by
  obtain ⟨p2, atx, hTs⟩ := hT
  intro k
  induction k with
  | zero =>
    intro i J hi hJ hB
    refine jJ_iload_n (pc := 25) dX6_tallyAllTexts_25 rfl ?_
    refine jJ_bipush (pc := 26) dX6_tallyAllTexts_26 (by decide) ?_
    refine jJ_icmp_ge (pc := 28) (tgt := 59) dX6_tallyAllTexts_28 (by decide) (fun c28 => ?_) (fun c28 => ?_)
    · refine jJ_vret (pc := 59) dX6_tallyAllTexts_59 rfl ?_
      exact ⟨rfl, rfl, rfl⟩
    · exfalso
      omega
  | succ k ih =>
    intro i J hi hJ hB
    obtain ⟨pt, hx⟩ := hTs i (by omega)
    have hx1 := hx.1
    have ptn : P tx ((i : Int)).toNat = some (x i) := by rw [Int.toNat_natCast]; exact pt
    refine jJ_iload_n (pc := 25) dX6_tallyAllTexts_25 rfl ?_
    refine jJ_bipush (pc := 26) dX6_tallyAllTexts_26 (by decide) ?_
    refine jJ_icmp_ge (pc := 28) (tgt := 59) dX6_tallyAllTexts_28 (by decide) (fun c28 => ?_) (fun c28 => ?_)
    · exfalso
      omega
    · refine jJ_aload_n (pc := 31) dX6_tallyAllTexts_31 rfl ?_
      refine jJ_getr (pc := 32) dX6_tallyAllTexts_32 fX6_15 rfl (by assumption) (by first | exact p2 | exact ptn) ?_
      refine jJ_iload_n (pc := 35) dX6_tallyAllTexts_35 rfl ?_
      refine jJ_aald (pc := 36) (t0 := 5) dX6_tallyAllTexts_36 atx rfl (by decide) ⟨by omega, by omega⟩ (by first | exact p2 | exact ptn) ?_
      refine jJ_geti (pc := 37) dX6_tallyAllTexts_37 fX6_114 rfl (by assumption) ?_
      rw [hJ _ (hxu i (by omega))]
      refine jJ_if_eq (pc := 40) (tgt := 53) dX6_tallyAllTexts_40 (by decide) (fun c40 => ?_) (fun c40 => ?_)
      · refine jJ_iinc (pc := 53) (ls' := [_, _]) dX6_tallyAllTexts_53 rfl ⟨by omega, by omega⟩ rfl ?_
        refine jJ_goto (pc := 56) (tgt := 25) dX6_tallyAllTexts_56 (by decide) ?_
        rw [tsM, if_neg (by simp [c40])]
        exact ih (i + 1) J (by omega) hJ (fun k hk => ⟨fun j hj => by have := (hB k hk).1 j hj; omega, fun j hj => by have := (hB k hk).2 j hj; omega⟩)
      · obtain ⟨hc, hg6, hg5, hg10⟩ := hI i (by omega) c40
        have hgn : gapsN (I (x i) 11) ≤ 199 := by unfold gapsN; split <;> omega
        refine jJ_aload_n (pc := 43) dX6_tallyAllTexts_43 rfl ?_
        refine jJ_aload_n (pc := 44) dX6_tallyAllTexts_44 rfl ?_
        refine jJ_getr (pc := 45) dX6_tallyAllTexts_45 fX6_15 rfl (by assumption) (by first | exact p2 | exact ptn) ?_
        refine jJ_iload_n (pc := 48) dX6_tallyAllTexts_48 rfl ?_
        refine jJ_aald (pc := 49) (t0 := 5) dX6_tallyAllTexts_49 atx rfl (by decide) ⟨by omega, by omega⟩ (by first | exact p2 | exact ptn) ?_
        refine jJ_callVd (pc := 50) (as := [_]) dX6_tallyAllTexts_50 mX6_177 (jRcv_of (by assumption) rfl rfl) (Nat.le_of_ble_eq_true rfl) (jRm_ok (by omega) (by decide)) (c_tallyText (d := d - 1) (I := I) (B := 600 * i) h0 hTa hu hx (hqu i (by omega)) (hJ _ (hxu i (by omega))) hc.2 hg6 hg5 hg10 hJ hB (by omega) (by omega)) ?_
        refine jJ_iinc (pc := 53) (ls' := [_, _]) dX6_tallyAllTexts_53 rfl ⟨by omega, by omega⟩ rfl ?_
        refine jJ_goto (pc := 56) (tgt := 25) dX6_tallyAllTexts_56 (by decide) ?_
        rw [tsM, if_pos c40]
        refine ih (i + 1) _ (by omega) (fun a ha => ?_) ?_
        · rw [tgM_x ha _ 0 J (fun j hj => hg6 j (by omega))]; exact hJ a ha
        · have hb2 := tgM_taB (tst := fun g => tstV (I (q i 5) g) (I (x i) 10) (I (q i 4) (g + 1))) (ch := I (q i 7)) hu (gapsN (I (x i) 11)) 0 J (600 * i) (fun j hj => hg6 j (by omega)) hB
          exact fun k hk => ⟨fun j hj => by have := (hb2 k hk).1 j hj; omega, fun j hj => by have := (hb2 k hk).2 j hj; omega⟩
theorem tallyAll_1 {tl : Nat} {t : Nat → Nat} {u : Nat → Nat → Nat} {Z : Code → List Frame → Array Value → State → State → Prop} (h0 : jK E 6 h) (hTa : TaL E P h tl t u) (hd : 3 ≤ d) (kk : jJ E yX6_tallyAllTexts.cls cX6_tallyAllTexts 2 none (jRm d) Z 0 0 25 [some (jp h), some (ji 0)] [] (clM I u 16) P) :
    ∀ (k i : Nat), i + k = 16 → jJ E yX6_tallyAllTexts.cls cX6_tallyAllTexts 2 none (jRm d) Z 0 0 2 [some (jp h), some (ji (i : Int))] [] (clM I u i) P := by
  obtain ⟨p9, atl, hTs⟩ := hTa
  intro k
  induction k with
  | zero =>
    intro i hi
    refine jJ_iload_n (pc := 2) dX6_tallyAllTexts_2 rfl ?_
    refine jJ_bipush (pc := 3) dX6_tallyAllTexts_3 (by decide) ?_
    refine jJ_icmp_ge (pc := 5) (tgt := 23) dX6_tallyAllTexts_5 (by decide) (fun c5 => ?_) (fun c5 => ?_)
    · refine jJ_iconst (pc := 23) dX6_tallyAllTexts_23 (by decide) ?_
      refine jJ_istore_n (pc := 24) (ls' := [_, _]) dX6_tallyAllTexts_24 (Nat.le_of_ble_eq_true rfl) rfl ?_
      rw [show i = 16 by omega]
      exact kk
    · exfalso
      omega
  | succ k ih =>
    intro i hi
    obtain ⟨pt, htl⟩ := hTs i (by omega)
    have ht1 := htl.1
    have ptn : P tl ((i : Int)).toNat = some (t i) := by rw [Int.toNat_natCast]; exact pt
    refine jJ_iload_n (pc := 2) dX6_tallyAllTexts_2 rfl ?_
    refine jJ_bipush (pc := 3) dX6_tallyAllTexts_3 (by decide) ?_
    refine jJ_icmp_ge (pc := 5) (tgt := 23) dX6_tallyAllTexts_5 (by decide) (fun c5 => ?_) (fun c5 => ?_)
    · exfalso
      omega
    · refine jJ_aload_n (pc := 8) dX6_tallyAllTexts_8 rfl ?_
      refine jJ_getr (pc := 9) dX6_tallyAllTexts_9 fX6_43 rfl (by assumption) (by first | exact p9 | exact ptn) ?_
      refine jJ_iload_n (pc := 12) dX6_tallyAllTexts_12 rfl ?_
      refine jJ_aald (pc := 13) (t0 := 4) dX6_tallyAllTexts_13 atl rfl (by decide) ⟨by omega, by omega⟩ (by first | exact p9 | exact ptn) ?_
      refine jJ_callVd (pc := 14) (as := []) dX6_tallyAllTexts_14 mX6_174 (jRcv_of (by assumption) rfl rfl) (Nat.le_of_ble_eq_true rfl) (jRm_ok (by omega) (by decide)) (c_Tally_clear (d := d - 1) htl (by omega)) ?_
      refine jJ_iinc (pc := 17) (ls' := [_, _]) dX6_tallyAllTexts_17 rfl ⟨by omega, by omega⟩ rfl ?_
      refine jJ_goto (pc := 20) (tgt := 2) dX6_tallyAllTexts_20 (by decide) ?_
      exact ih (i + 1) (by omega)
theorem c_tallyAll {tl tx : Nat} {t : Nat → Nat} {u : Nat → Nat → Nat} {x : Nat → Nat} {q : Nat → Nat → Nat} (h0 : jK E 6 h) (hTa : TaL E P h tl t u) (hu : TaD u) (hT : TsL E P h tx x q) (hqu : ∀ t, t < 12 → ∀ i, i ≤ 7 → ¬ taS u (q t i)) (hxu : ∀ t, t < 12 → ¬ taS u (x t)) (hI : ∀ t, t < 12 → I (x t) 8 ≠ 0 → TxG I (x t) (q t)) (hd : 3 ≤ d) :
    jC E yX6_tallyAllTexts cX6_tallyAllTexts 2 none d [jp h] I P (jD none (tsM I x q u 0 12 (clM I u 16)) P) := by
  refine jC_intro (by decide +kernel) (by simp [jc, va_rf, Value.category]) (Nat.le_of_ble_eq_true rfl) ?_
  refine jJ_iconst (pc := 0) dX6_tallyAllTexts_0 (by decide) ?_
  refine jJ_istore_n (pc := 1) (ls' := [_, _]) dX6_tallyAllTexts_1 (Nat.le_of_ble_eq_true rfl) rfl ?_
  refine tallyAll_1 h0 hTa hd ?_ 16 0 (by omega)
  refine tallyAll_2 h0 hTa hu hT hqu hxu hI hd 12 0 (clM I u 16) (by omega) (fun a ha => clM_x ha 16 (by decide)) (fun k hk => ?_)
  obtain ⟨g0, g1⟩ := clM_0 (J := I) hu 16 (by decide) k hk
  exact ⟨fun j hj => by rw [g0 j hj]; simp, fun j hj => by rw [g1 j hj]; simp⟩
/-! the costs stay small -/
theorem wCo_r {f g : Nat → Int} {tp xp n x y : Int} (hf : few f 3) (hg : few g 300) (hp1 : 0 ≤ tp ∧ tp ≤ 100) (hp2 : 0 ≤ xp ∧ xp ≤ 100) (hx : tst x) (hy : tst y) (hn : 0 ≤ n ∧ n ≤ 2) : -4000000 ≤ wCo f g tp xp n x y ∧ wCo f g tp xp n x y ≤ 4000000 := by
  have r1 := wWh_r hg hx (pick_cho (xp := xp) (h := wWh g x))
  have r2 := wSe_r hg hx hy (pick_cho (xp := xp) (h := wSe g x y))
  have r3 := wLa_r hf hg hx hy (pick_cho (xp := xp) (h := wLa f g x y))
  have hex : -36000 ≤ wEx f g xp x y ∧ wEx f g xp x y ≤ 36000 := by unfold wEx; omega
  have hm1 : 0 ≤ n * tp ∧ n * tp ≤ 200 := by
    have : n = 0 ∨ n = 1 ∨ n = 2 := by omega
    rcases this with rfl | rfl | rfl <;> omega
  have hm2 : -3600000 ≤ wEx f g xp x y * xp ∧ wEx f g xp x y * xp ≤ 3600000 := by
    generalize wEx f g xp x y = w at hex
    constructor
    · have := Int.mul_le_mul_of_nonneg_right (a := -36000) (b := w) (c := xp) hex.1 hp2.1
      omega
    · have := Int.mul_le_mul_of_nonneg_right (a := w) (b := 36000) (c := xp) hex.2 hp2.1
      omega
  unfold wCo
  omega
def cst (h : Nat → Int) : Prop := -4000000 ≤ h 6 ∧ h 6 ≤ 4000000
theorem weigh_c {f g : Nat → Int} {tp xp n x y : Int} {b : Nat → Int} (hf : few f 3) (hg : few g 300) (hp1 : 0 ≤ tp ∧ tp ≤ 100) (hp2 : 0 ≤ xp ∧ xp ≤ 100) (hx : tst x) (hy : tst y) (hn : 0 ≤ n ∧ n ≤ 2) (hb : n = 0 ∨ cst b) : cst (weigh f g tp xp n x y b) := by
  have hr := wCo_r hf hg hp1 hp2 hx hy hn
  unfold weigh
  split
  · exact hr
  · rcases hb with hb | hb
    · exfalso; omega
    · exact hb
theorem wTwo_c {f g : Nat → Int} {tp xp x : Int} (hf : few f 3) (hg : few g 300) (hp1 : 0 ≤ tp ∧ tp ≤ 100) (hp2 : 0 ≤ xp ∧ xp ≤ 100) (hx : tst x) : ∀ (k j : Nat) (b : Nat → Int), j + k = 10 → cst b → cst (wTwo f g tp xp x k j b)
  | 0, j, b, _, hb => hb
  | k + 1, j, b, hj, hb => by
    rw [wTwo]
    apply wTwo_c hf hg hp1 hp2 hx k (j + 1) _ (by omega)
    split
    · exact hb
    · exact weigh_c hf hg hp1 hp2 hx ⟨by omega, by omega⟩ ⟨by decide, by decide⟩ (Or.inr hb)
theorem sr1_c {f g : Nat → Int} {tp xp : Int} (hf : few f 3) (hg : few g 300) (hp1 : 0 ≤ tp ∧ tp ≤ 100) (hp2 : 0 ≤ xp ∧ xp ≤ 100) : ∀ (k j : Nat) (b : Nat → Int), j + k = 10 → cst b → cst (sr1 f g tp xp k j b)
  | 0, j, b, _, hb => hb
  | k + 1, j, b, hj, hb => by
    rw [sr1]
    split
    · exact sr1_c hf hg hp1 hp2 k (j + 1) _ (by omega) (weigh_c hf hg hp1 hp2 ⟨by omega, by omega⟩ ⟨by decide, by decide⟩ ⟨by decide, by decide⟩ (Or.inr hb))
    · exact hb
theorem sr2_c {f g : Nat → Int} {tp xp : Int} (hf : few f 3) (hg : few g 300) (hp1 : 0 ≤ tp ∧ tp ≤ 100) (hp2 : 0 ≤ xp ∧ xp ≤ 100) : ∀ (k j : Nat) (b : Nat → Int), j + k = 10 → cst b → cst (sr2 f g tp xp k j b)
  | 0, j, b, _, hb => hb
  | k + 1, j, b, hj, hb => by
    rw [sr2]
    split
    · exact sr2_c hf hg hp1 hp2 k (j + 1) _ (by omega) (wTwo_c hf hg hp1 hp2 ⟨by omega, by omega⟩ 10 0 b (by omega) hb)
    · exact hb
theorem srch_c {f g : Nat → Int} {tp xp : Int} {b : Nat → Int} (hf : few f 3) (hg : few g 300) (hp1 : 0 ≤ tp ∧ tp ≤ 100) (hp2 : 0 ≤ xp ∧ xp ≤ 100) : cst (srch f g tp xp b) :=
  sr2_c hf hg hp1 hp2 10 0 _ (by omega) (sr1_c hf hg hp1 hp2 10 0 _ (by omega) (weigh_c hf hg hp1 hp2 ⟨by decide, by decide⟩ ⟨by decide, by decide⟩ ⟨by decide, by decide⟩ (Or.inl rfl)))
end JFind
