section JWeigh
variable {E : jE} {I : jI} {P : jP} {d : Nat}
def wWh (g : Nat → Int) (t c : Int) : Int := if t = -1 then 0 else g ((t * 10 + t) * 3 + c).toNat
def wBo (g : Nat → Int) (t u c : Int) : Int := if t = -1 ∨ u = -1 then 0 else g ((t * 10 + u) * 3 + c).toNat
def wSe (g : Nat → Int) (t u c : Int) : Int := wWh g u c - wBo g t u c
def wLa (f g : Nat → Int) (t u c : Int) : Int := f c.toNat - wWh g t c - wSe g t u c
def tst (t : Int) : Prop := -1 ≤ t ∧ t ≤ 9
def cho (c : Int) : Prop := 0 ≤ c ∧ c ≤ 2
theorem wBo_d {g : Nat → Int} {t c : Int} : wBo g t t c = wWh g t c := by unfold wBo wWh; simp only [or_self]
theorem c_Tally_wrongWhere {t : Nat} {u : Nat → Nat} {a b c : Int} (ht : TlL E P t u) (ha : tst a) (hb : tst b) (hc : cho c) : jC E yX4_wrongWhere cX4_wrongWhere 4 (some .int) d [jp t, ji a, ji b, ji c] I P (jD (some (ji (wBo (I (u 1)) a b c))) I P) := by
  obtain ⟨h0, p0, p1, a0, a1, hne⟩ := ht
  obtain ⟨c1, c2⟩ := hc
  obtain ⟨z1, z2⟩ := ha
  obtain ⟨z3, z4⟩ := hb
  refine jC_intro (by decide +kernel) (by simp [jc, va_rf, Value.category]) (Nat.le_of_ble_eq_true rfl) ?_
  refine jJ_iload_n (pc := 0) dX4_wrongWhere_0 rfl ?_
  refine jJ_if_lt (pc := 1) (tgt := 20) dX4_wrongWhere_1 (by decide) (fun c1 => ?_) (fun c1 => ?_)
  · refine jJ_iconst (pc := 20) dX4_wrongWhere_20 (by decide) ?_
    refine jJ_iret (pc := 21) dX4_wrongWhere_21 rfl ?_
    exact ⟨by unfold wBo; split <;> first | rfl | (exfalso; omega), rfl, rfl⟩
  · refine jJ_iload_n (pc := 4) dX4_wrongWhere_4 rfl ?_
    refine jJ_bipush (pc := 5) dX4_wrongWhere_5 (by decide) ?_
    refine jJ_icmp_ge (pc := 7) (tgt := 20) dX4_wrongWhere_7 (by decide) (fun c7 => ?_) (fun c7 => ?_)
    · refine jJ_iconst (pc := 20) dX4_wrongWhere_20 (by decide) ?_
      refine jJ_iret (pc := 21) dX4_wrongWhere_21 rfl ?_
      exact ⟨by unfold wBo; split <;> first | rfl | (exfalso; omega), rfl, rfl⟩
    · refine jJ_iload_n (pc := 10) dX4_wrongWhere_10 rfl ?_
      refine jJ_if_lt (pc := 11) (tgt := 20) dX4_wrongWhere_11 (by decide) (fun c11 => ?_) (fun c11 => ?_)
      · refine jJ_iconst (pc := 20) dX4_wrongWhere_20 (by decide) ?_
        refine jJ_iret (pc := 21) dX4_wrongWhere_21 rfl ?_
        exact ⟨by unfold wBo; split <;> first | rfl | (exfalso; omega), rfl, rfl⟩
      · refine jJ_iload_n (pc := 14) dX4_wrongWhere_14 rfl ?_
        refine jJ_bipush (pc := 15) dX4_wrongWhere_15 (by decide) ?_
        refine jJ_icmp_lt (pc := 17) (tgt := 22) dX4_wrongWhere_17 (by decide) (fun c17 => ?_) (fun c17 => ?_)
        · refine jJ_aload_n (pc := 22) dX4_wrongWhere_22 rfl ?_
          refine jJ_getr (pc := 23) dX4_wrongWhere_23 fX4_15 rfl (by assumption) (by assumption) ?_
          refine jJ_iload_n (pc := 26) dX4_wrongWhere_26 rfl ?_
          refine jJ_bipush (pc := 27) dX4_wrongWhere_27 (by decide) ?_
          refine jJ_imul (pc := 29) dX4_wrongWhere_29 ⟨by omega, by omega⟩ ?_
          refine jJ_iload_n (pc := 30) dX4_wrongWhere_30 rfl ?_
          refine jJ_iadd (pc := 31) dX4_wrongWhere_31 ⟨by omega, by omega⟩ ?_
          refine jJ_iconst (pc := 32) dX4_wrongWhere_32 (by decide) ?_
          refine jJ_imul (pc := 33) dX4_wrongWhere_33 ⟨by omega, by omega⟩ ?_
          refine jJ_iload_n (pc := 34) dX4_wrongWhere_34 rfl ?_
          refine jJ_iadd (pc := 35) dX4_wrongWhere_35 ⟨by omega, by omega⟩ ?_
          refine jJ_iald (pc := 36) dX4_wrongWhere_36 (by assumption) ⟨by omega, by omega⟩ ?_
          refine jJ_iret (pc := 37) dX4_wrongWhere_37 rfl ?_
          exact ⟨by unfold wBo; split <;> first | rfl | (exfalso; omega), rfl, rfl⟩
        · refine jJ_iconst (pc := 20) dX4_wrongWhere_20 (by decide) ?_
          refine jJ_iret (pc := 21) dX4_wrongWhere_21 rfl ?_
          exact ⟨by unfold wBo; split <;> first | rfl | (exfalso; omega), rfl, rfl⟩
theorem c_Tally_wrongByFirst {t : Nat} {u : Nat → Nat} {a c : Int} (ht : TlL E P t u) (ha : tst a) (hc : cho c) (hd : 1 ≤ d) : jC E yX4_wrongByFirst cX4_wrongByFirst 3 (some .int) d [jp t, ji a, ji c] I P (jD (some (ji (wWh (I (u 1)) a c))) I P) := by
  have h0 := ht.1
  rw [← wBo_d]
  refine jC_intro (by decide +kernel) (by simp [jc, va_rf, Value.category]) (Nat.le_of_ble_eq_true rfl) ?_
  refine jJ_aload_n (pc := 0) dX4_wrongByFirst_0 rfl ?_
  refine jJ_iload_n (pc := 1) dX4_wrongByFirst_1 rfl ?_
  refine jJ_iload_n (pc := 2) dX4_wrongByFirst_2 rfl ?_
  refine jJ_iload_n (pc := 3) dX4_wrongByFirst_3 rfl ?_
  refine jJ_callVd (pc := 4) (as := [_, _, _]) dX4_wrongByFirst_4 mX4_32 (jRcv_of (by assumption) rfl rfl) (Nat.le_of_ble_eq_true rfl) (jRm_ok (by omega) (by decide)) (c_Tally_wrongWhere (d := d - 1) ht ha ha hc) ?_
  refine jJ_iret (pc := 7) dX4_wrongByFirst_7 rfl ?_
  exact ⟨rfl, rfl, rfl⟩
/-- the counts are few -/
def few (f : Nat → Int) (n : Nat) : Prop := ∀ k, k < n → 0 ≤ f k ∧ f k ≤ 9000
theorem wWh_r {g : Nat → Int} {a c : Int} (hg : few g 300) (ha : tst a) (hc : cho c) : 0 ≤ wWh g a c ∧ wWh g a c ≤ 9000 := by
  obtain ⟨z1, z2⟩ := ha
  obtain ⟨z3, z4⟩ := hc
  unfold wWh
  split
  · omega
  · exact hg _ (by omega)
theorem wBo_r {g : Nat → Int} {a b c : Int} (hg : few g 300) (ha : tst a) (hb : tst b) (hc : cho c) : 0 ≤ wBo g a b c ∧ wBo g a b c ≤ 9000 := by
  obtain ⟨z1, z2⟩ := ha
  obtain ⟨z3, z4⟩ := hc
  obtain ⟨z5, z6⟩ := hb
  unfold wBo
  split
  · omega
  · exact hg _ (by omega)
theorem wSe_r {g : Nat → Int} {a b c : Int} (hg : few g 300) (ha : tst a) (hb : tst b) (hc : cho c) : -9000 ≤ wSe g a b c ∧ wSe g a b c ≤ 9000 := by
  have h1 := wWh_r hg hb hc
  have h2 := wBo_r hg ha hb hc
  unfold wSe
  omega
theorem wLa_r {f g : Nat → Int} {a b c : Int} (hf : few f 3) (hg : few g 300) (ha : tst a) (hb : tst b) (hc : cho c) : -18000 ≤ wLa f g a b c ∧ wLa f g a b c ≤ 18000 := by
  have h1 := wWh_r hg ha hc
  have h2 := wSe_r hg ha hb hc
  have h3 := hf c.toNat (by have := hc.1; have := hc.2; omega)
  unfold wLa
  omega
theorem c_Tally_wrongBySecond {t : Nat} {u : Nat → Nat} {a b c : Int} (ht : TlL E P t u) (hg : few (I (u 1)) 300) (ha : tst a) (hb : tst b) (hc : cho c) (hd : 2 ≤ d) : jC E yX4_wrongBySecond cX4_wrongBySecond 4 (some .int) d [jp t, ji a, ji b, ji c] I P (jD (some (ji (wSe (I (u 1)) a b c))) I P) := by
  have h0 := ht.1
  have r1 := wWh_r hg hb hc
  have r2 := wBo_r hg ha hb hc
  rw [wSe, ← wBo_d (t := b)]
  rw [← wBo_d] at r1
  refine jC_intro (by decide +kernel) (by simp [jc, va_rf, Value.category]) (Nat.le_of_ble_eq_true rfl) ?_
  refine jJ_aload_n (pc := 0) dX4_wrongBySecond_0 rfl ?_
  refine jJ_iload_n (pc := 1) dX4_wrongBySecond_1 rfl ?_
  refine jJ_iload_n (pc := 2) dX4_wrongBySecond_2 rfl ?_
  refine jJ_iload_n (pc := 3) dX4_wrongBySecond_3 rfl ?_
  refine jJ_callVd (pc := 4) (as := [_, _, _]) dX4_wrongBySecond_4 mX4_32 (jRcv_of (by assumption) rfl rfl) (Nat.le_of_ble_eq_true rfl) (jRm_ok (by omega) (by decide)) (c_Tally_wrongWhere (d := d - 1) ht hb hb hc) ?_
  refine jJ_aload_n (pc := 7) dX4_wrongBySecond_7 rfl ?_
  refine jJ_iload_n (pc := 8) dX4_wrongBySecond_8 rfl ?_
  refine jJ_iload_n (pc := 9) dX4_wrongBySecond_9 rfl ?_
  refine jJ_iload_n (pc := 10) dX4_wrongBySecond_10 rfl ?_
  refine jJ_callVd (pc := 11) (as := [_, _, _]) dX4_wrongBySecond_11 mX4_32 (jRcv_of (by assumption) rfl rfl) (Nat.le_of_ble_eq_true rfl) (jRm_ok (by omega) (by decide)) (c_Tally_wrongWhere (d := d - 1) ht ha hb hc) ?_
  refine jJ_isub (pc := 14) dX4_wrongBySecond_14 ⟨by omega, by omega⟩ ?_
  refine jJ_iret (pc := 15) dX4_wrongBySecond_15 rfl ?_
  exact ⟨rfl, rfl, rfl⟩
theorem c_Tally_wrongByLast {t : Nat} {u : Nat → Nat} {a b c : Int} (ht : TlL E P t u) (hf : few (I (u 0)) 3) (hg : few (I (u 1)) 300) (ha : tst a) (hb : tst b) (hc : cho c) (hd : 3 ≤ d) : jC E yX4_wrongByLast cX4_wrongByLast 4 (some .int) d [jp t, ji a, ji b, ji c] I P (jD (some (ji (wLa (I (u 0)) (I (u 1)) a b c))) I P) := by
  have ht0 := ht
  obtain ⟨h0, p0, p1, a0, a1, hne⟩ := ht
  have r1 := wWh_r hg ha hc
  have r2 := wSe_r hg ha hb hc
  have r3 := hf c.toNat (by have := hc.1; have := hc.2; omega)
  obtain ⟨z1, z2⟩ := hc
  refine jC_intro (by decide +kernel) (by simp [jc, va_rf, Value.category]) (Nat.le_of_ble_eq_true rfl) ?_
  refine jJ_aload_n (pc := 0) dX4_wrongByLast_0 rfl ?_
  refine jJ_getr (pc := 1) dX4_wrongByLast_1 fX4_9 rfl (by assumption) (by assumption) ?_
  refine jJ_iload_n (pc := 4) dX4_wrongByLast_4 rfl ?_
  refine jJ_iald (pc := 5) dX4_wrongByLast_5 a0 ⟨by omega, by omega⟩ ?_
  refine jJ_aload_n (pc := 6) dX4_wrongByLast_6 rfl ?_
  refine jJ_iload_n (pc := 7) dX4_wrongByLast_7 rfl ?_
  refine jJ_iload_n (pc := 8) dX4_wrongByLast_8 rfl ?_
  refine jJ_callVd (pc := 9) (as := [_, _]) dX4_wrongByLast_9 mX4_36 (jRcv_of (by assumption) rfl rfl) (Nat.le_of_ble_eq_true rfl) (jRm_ok (by omega) (by decide)) (c_Tally_wrongByFirst (d := d - 1) ht0 ha ⟨z1, z2⟩ (by omega)) ?_
  refine jJ_isub (pc := 12) dX4_wrongByLast_12 ⟨by omega, by omega⟩ ?_
  refine jJ_aload_n (pc := 13) dX4_wrongByLast_13 rfl ?_
  refine jJ_iload_n (pc := 14) dX4_wrongByLast_14 rfl ?_
  refine jJ_iload_n (pc := 15) dX4_wrongByLast_15 rfl ?_
  refine jJ_iload_n (pc := 16) dX4_wrongByLast_16 rfl ?_
  refine jJ_callVd (pc := 17) (as := [_, _, _]) dX4_wrongByLast_17 mX4_39 (jRcv_of (by assumption) rfl rfl) (Nat.le_of_ble_eq_true rfl) (jRm_ok (by omega) (by decide)) (c_Tally_wrongBySecond (d := d - 1) ht0 hg ha hb ⟨z1, z2⟩ (by omega)) ?_
  refine jJ_isub (pc := 20) dX4_wrongByLast_20 ⟨by omega, by omega⟩ ?_
  refine jJ_iret (pc := 21) dX4_wrongByLast_21 rfl ?_
  exact ⟨rfl, rfl, rfl⟩
theorem c_Tally_isCheaper {t : Nat} {a b : Int} (ht : jK E 4 t) : jC E yX4_isCheaper cX4_isCheaper 3 (some .boolean) d [jp t, ji a, ji b] I P (jD (some (ji (jb (0 < I t 3 ∧ a < b)))) I P) := by
  refine jC_intro (by decide +kernel) (by simp [jc, va_rf, Value.category]) (Nat.le_of_ble_eq_true rfl) ?_
  refine jJ_aload_n (pc := 0) dX4_isCheaper_0 rfl ?_
  refine jJ_geti (pc := 1) dX4_isCheaper_1 fX4_46 rfl (by assumption) ?_
  refine jJ_if_le (pc := 4) (tgt := 16) dX4_isCheaper_4 (by decide) (fun c4 => ?_) (fun c4 => ?_)
  · refine jJ_iconst (pc := 16) dX4_isCheaper_16 (by decide) ?_
    refine jJ_zret (pc := 17) dX4_isCheaper_17 rfl (by decide) ?_
    exact ⟨by first | rw [← jb_t (by omega)] | rw [← jb_f (by omega)], rfl, rfl⟩
  · refine jJ_iload_n (pc := 7) dX4_isCheaper_7 rfl ?_
    refine jJ_iload_n (pc := 8) dX4_isCheaper_8 rfl ?_
    refine jJ_icmp_ge (pc := 9) (tgt := 16) dX4_isCheaper_9 (by decide) (fun c9 => ?_) (fun c9 => ?_)
    · refine jJ_iconst (pc := 16) dX4_isCheaper_16 (by decide) ?_
      refine jJ_zret (pc := 17) dX4_isCheaper_17 rfl (by decide) ?_
      exact ⟨by first | rw [← jb_t (by omega)] | rw [← jb_f (by omega)], rfl, rfl⟩
    · refine jJ_iconst (pc := 12) dX4_isCheaper_12 (by decide) ?_
      refine jJ_goto (pc := 13) (tgt := 17) dX4_isCheaper_13 (by decide) ?_
      refine jJ_zret (pc := 17) dX4_isCheaper_17 rfl (by decide) ?_
      exact ⟨by first | rw [← jb_t (by omega)] | rw [← jb_f (by omega)], rfl, rfl⟩
/-- the cheaper of the choice b and the new one c -/
def chp (xp : Int) (h : Int → Int) (b c : Int) : Int := if 0 < xp ∧ h c < h b then c else b
def pick (xp : Int) (h : Int → Int) : Int := chp xp h (chp xp h 0 1) 2
theorem chp_cho {xp : Int} {h : Int → Int} {b c : Int} (hb : cho b) (hc : cho c) : cho (chp xp h b c) := by unfold chp; split <;> assumption
theorem pick_cho {xp : Int} {h : Int → Int} : cho (pick xp h) := chp_cho (chp_cho ⟨by decide, by decide⟩ ⟨by decide, by decide⟩) ⟨by decide, by decide⟩
theorem weigh_iter {Z : Code → List Frame → Array Value → State → State → Prop} {t b : Nat} {u : Nat → Nat} {n x y c l1 l2 l3 : Int} {z9 : Option jV} (ht : TlL E P t u) (hf : few (I (u 0)) 3) (hg : few (I (u 1)) 300) (hx : tst x) (hy : tst y) (hc : 1 ≤ c ∧ c ≤ 2) (h1 : cho l1) (h2 : cho l2) (h3 : cho l3) (hd : 4 ≤ d)
    (kk : jJ E yX4_weigh.cls cX4_weigh 10 none (jRm d) Z 0 0 12 [some (jp t), some (jp b), some (ji n), some (ji x), some (ji y), some (ji (chp (I t 3) (wWh (I (u 1)) x) l1 c)), some (ji (chp (I t 3) (wSe (I (u 1)) x y) l2 c)), some (ji (chp (I t 3) (wLa (I (u 0)) (I (u 1)) x y) l3 c)), some (ji (c + 1)), z9] [] I P) :
    jJ E yX4_weigh.cls cX4_weigh 10 none (jRm d) Z 0 0 12 [some (jp t), some (jp b), some (ji n), some (ji x), some (ji y), some (ji l1), some (ji l2), some (ji l3), some (ji c), z9] [] I P := by
  have h0 := ht.1
  have hcc : cho c := ⟨by omega, by omega⟩
  have s3 : ∀ m1 m2 : Int, m1 = chp (I t 3) (wWh (I (u 1)) x) l1 c → m2 = chp (I t 3) (wSe (I (u 1)) x y) l2 c → jJ E yX4_weigh.cls cX4_weigh 10 none (jRm d) Z 0 0 72 [some (jp t), some (jp b), some (ji n), some (ji x), some (ji y), some (ji m1), some (ji m2), some (ji l3), some (ji c), z9] [] I P := by
    intro m1 m2 e1 e2
    subst e1
    subst e2
    refine jJ_aload_n (pc := 72) dX4_weigh_72 rfl ?_
    refine jJ_aload_n (pc := 73) dX4_weigh_73 rfl ?_
    refine jJ_iload_n (pc := 74) dX4_weigh_74 rfl ?_
    refine jJ_iload (pc := 75) dX4_weigh_75 rfl ?_
    refine jJ_iload (pc := 77) dX4_weigh_77 rfl ?_
    refine jJ_callVd (pc := 79) (as := [_, _, _]) dX4_weigh_79 mX4_66 (jRcv_of (by assumption) rfl rfl) (Nat.le_of_ble_eq_true rfl) (jRm_ok (by omega) (by decide)) (c_Tally_wrongByLast (d := d - 1) ht hf hg hx hy hcc (by omega)) ?_
    refine jJ_aload_n (pc := 82) dX4_weigh_82 rfl ?_
    refine jJ_iload_n (pc := 83) dX4_weigh_83 rfl ?_
    refine jJ_iload (pc := 84) dX4_weigh_84 rfl ?_
    refine jJ_iload (pc := 86) dX4_weigh_86 rfl ?_
    refine jJ_callVd (pc := 88) (as := [_, _, _]) dX4_weigh_88 mX4_66 (jRcv_of (by assumption) rfl rfl) (Nat.le_of_ble_eq_true rfl) (jRm_ok (by omega) (by decide)) (c_Tally_wrongByLast (d := d - 1) ht hf hg hx hy h3 (by omega)) ?_
    refine jJ_callVd (pc := 91) (as := [_, _]) dX4_weigh_91 mX4_62 (jRcv_of (by assumption) rfl rfl) (Nat.le_of_ble_eq_true rfl) (jRm_ok (by omega) (by decide)) (c_Tally_isCheaper (d := d - 1) h0) ?_
    refine jJ_if_eq (pc := 94) (tgt := 101) dX4_weigh_94 (by decide) (fun c94 => ?_) (fun c94 => ?_)
    · simp only [jb_z] at c94
      refine jJ_iinc (pc := 101) (ls' := [_, _, _, _, _, _, _, _, _, _]) dX4_weigh_101 rfl ⟨by omega, by omega⟩ rfl ?_
      refine jJ_goto (pc := 104) (tgt := 12) dX4_weigh_104 (by decide) ?_
      rw [show chp (I t 3) (wLa (I (u 0)) (I (u 1)) x y) l3 c = l3 by unfold chp; rw [if_neg c94]] at kk
      exact kk
    · simp only [jb_nz] at c94
      refine jJ_iload (pc := 97) dX4_weigh_97 rfl ?_
      refine jJ_istore (pc := 99) (ls' := [_, _, _, _, _, _, _, _, _, _]) dX4_weigh_99 (Nat.le_of_ble_eq_true rfl) rfl ?_
      refine jJ_iinc (pc := 101) (ls' := [_, _, _, _, _, _, _, _, _, _]) dX4_weigh_101 rfl ⟨by omega, by omega⟩ rfl ?_
      refine jJ_goto (pc := 104) (tgt := 12) dX4_weigh_104 (by decide) ?_
      rw [show chp (I t 3) (wLa (I (u 0)) (I (u 1)) x y) l3 c = c by unfold chp; rw [if_pos c94]] at kk
      exact kk
  have s2 : ∀ m1 : Int, m1 = chp (I t 3) (wWh (I (u 1)) x) l1 c → jJ E yX4_weigh.cls cX4_weigh 10 none (jRm d) Z 0 0 43 [some (jp t), some (jp b), some (ji n), some (ji x), some (ji y), some (ji m1), some (ji l2), some (ji l3), some (ji c), z9] [] I P := by
    intro m1 e1
    refine jJ_aload_n (pc := 43) dX4_weigh_43 rfl ?_
    refine jJ_aload_n (pc := 44) dX4_weigh_44 rfl ?_
    refine jJ_iload_n (pc := 45) dX4_weigh_45 rfl ?_
    refine jJ_iload (pc := 46) dX4_weigh_46 rfl ?_
    refine jJ_iload (pc := 48) dX4_weigh_48 rfl ?_
    refine jJ_callVd (pc := 50) (as := [_, _, _]) dX4_weigh_50 mX4_39 (jRcv_of (by assumption) rfl rfl) (Nat.le_of_ble_eq_true rfl) (jRm_ok (by omega) (by decide)) (c_Tally_wrongBySecond (d := d - 1) ht hg hx hy hcc (by omega)) ?_
    refine jJ_aload_n (pc := 53) dX4_weigh_53 rfl ?_
    refine jJ_iload_n (pc := 54) dX4_weigh_54 rfl ?_
    refine jJ_iload (pc := 55) dX4_weigh_55 rfl ?_
    refine jJ_iload (pc := 57) dX4_weigh_57 rfl ?_
    refine jJ_callVd (pc := 59) (as := [_, _, _]) dX4_weigh_59 mX4_39 (jRcv_of (by assumption) rfl rfl) (Nat.le_of_ble_eq_true rfl) (jRm_ok (by omega) (by decide)) (c_Tally_wrongBySecond (d := d - 1) ht hg hx hy h2 (by omega)) ?_
    refine jJ_callVd (pc := 62) (as := [_, _]) dX4_weigh_62 mX4_62 (jRcv_of (by assumption) rfl rfl) (Nat.le_of_ble_eq_true rfl) (jRm_ok (by omega) (by decide)) (c_Tally_isCheaper (d := d - 1) h0) ?_
    refine jJ_if_eq (pc := 65) (tgt := 72) dX4_weigh_65 (by decide) (fun c65 => ?_) (fun c65 => ?_)
    · simp only [jb_z] at c65
      exact s3 m1 l2 e1 (by unfold chp; rw [if_neg c65])
    · simp only [jb_nz] at c65
      refine jJ_iload (pc := 68) dX4_weigh_68 rfl ?_
      refine jJ_istore (pc := 70) (ls' := [_, _, _, _, _, _, _, _, _, _]) dX4_weigh_70 (Nat.le_of_ble_eq_true rfl) rfl ?_
      exact s3 m1 c e1 (by unfold chp; rw [if_pos c65])
  refine jJ_iload (pc := 12) dX4_weigh_12 rfl ?_
  refine jJ_iconst (pc := 14) dX4_weigh_14 (by decide) ?_
  refine jJ_icmp_ge (pc := 15) (tgt := 107) dX4_weigh_15 (by decide) (fun c15 => ?_) (fun c15 => ?_)
  · exfalso
    omega
  · refine jJ_aload_n (pc := 18) dX4_weigh_18 rfl ?_
    refine jJ_aload_n (pc := 19) dX4_weigh_19 rfl ?_
    refine jJ_iload_n (pc := 20) dX4_weigh_20 rfl ?_
    refine jJ_iload (pc := 21) dX4_weigh_21 rfl ?_
    refine jJ_callVd (pc := 23) (as := [_, _]) dX4_weigh_23 mX4_36 (jRcv_of (by assumption) rfl rfl) (Nat.le_of_ble_eq_true rfl) (jRm_ok (by omega) (by decide)) (c_Tally_wrongByFirst (d := d - 1) ht hx hcc (by omega)) ?_
    refine jJ_aload_n (pc := 26) dX4_weigh_26 rfl ?_
    refine jJ_iload_n (pc := 27) dX4_weigh_27 rfl ?_
    refine jJ_iload (pc := 28) dX4_weigh_28 rfl ?_
    refine jJ_callVd (pc := 30) (as := [_, _]) dX4_weigh_30 mX4_36 (jRcv_of (by assumption) rfl rfl) (Nat.le_of_ble_eq_true rfl) (jRm_ok (by omega) (by decide)) (c_Tally_wrongByFirst (d := d - 1) ht hx h1 (by omega)) ?_
    refine jJ_callVd (pc := 33) (as := [_, _]) dX4_weigh_33 mX4_62 (jRcv_of (by assumption) rfl rfl) (Nat.le_of_ble_eq_true rfl) (jRm_ok (by omega) (by decide)) (c_Tally_isCheaper (d := d - 1) h0) ?_
    refine jJ_if_eq (pc := 36) (tgt := 43) dX4_weigh_36 (by decide) (fun c36 => ?_) (fun c36 => ?_)
    · simp only [jb_z] at c36
      exact s2 l1 (by unfold chp; rw [if_neg c36])
    · simp only [jb_nz] at c36
      refine jJ_iload (pc := 39) dX4_weigh_39 rfl ?_
      refine jJ_istore (pc := 41) (ls' := [_, _, _, _, _, _, _, _, _, _]) dX4_weigh_41 (Nat.le_of_ble_eq_true rfl) rfl ?_
      exact s2 c (by unfold chp; rw [if_pos c36])
/-- a habit's row at its object -/
def habR (I : jI) (b : Nat) (h : Nat → Int) : jI := fun a k => if a = b ∧ k < 8 then h k else I a k
theorem habR_x {I : jI} {b a : Nat} {h : Nat → Int} (ha : a ≠ b) (k : Nat) : habR I b h a k = I a k := by simp [habR, ha]
theorem habR_s {I : jI} {b k : Nat} {h : Nat → Int} (hk : k < 8) : habR I b h b k = h k := by simp [habR, hk]
theorem habR_put {I : jI} {b k : Nat} {h : Nat → Int} {v : Int} (hk : k < 8) : jput (habR I b h) b k v = habR I b (fun j => if j = k then v else h j) := by
  funext a j
  simp only [jput, habR]
  by_cases ha : a = b
  · subst ha
    by_cases hj : j = k
    · subst hj; simp [hk]
    · simp [hj]
  · simp [ha]
/-- the habit's row of these TESTS and choices -/
def habN (n x l1 y l2 l3 co ex : Int) : Nat → Int := fun k => if k = 0 then n else if k = 1 then x else if k = 2 then l1 else if k = 3 then y else if k = 4 then l2 else if k = 5 then l3 else if k = 6 then co else ex
theorem habR_ext {I : jI} {b : Nat} {h h' : Nat → Int} (e : ∀ k, k < 8 → h k = h' k) : habR I b h = habR I b h' := by
  funext a k
  simp only [habR]
  by_cases hk : k < 8
  · rw [e k hk]
  · simp [hk]
/-- how many gaps a row of these TESTS tells wrong, at the best choices -/
def wEx (f g : Nat → Int) (xp x y : Int) : Int := wWh g x (pick xp (wWh g x)) + wSe g x y (pick xp (wSe g x y)) + wLa f g x y (pick xp (wLa f g x y))
def wCo (f g : Nat → Int) (tp xp n x y : Int) : Int := n * tp + wEx f g xp x y * xp
/-- the best habit, this row weighed too -/
def weigh (f g : Nat → Int) (tp xp n x y : Int) (h : Nat → Int) : Nat → Int :=
  if n = 0 ∨ wCo f g tp xp n x y < h 6 then habN n x (if 0 < n then pick xp (wWh g x) else -1) y (if 1 < n then pick xp (wSe g x y) else -1) (pick xp (wLa f g x y)) (wCo f g tp xp n x y) (wEx f g xp x y) else h
theorem c_Tally_weigh {t b : Nat} {u : Nat → Nat} {n x y : Int} {h : Nat → Int} (ht : TlL E P t u) (hb : jK E 0 b) (hf : few (I (u 0)) 3) (hg : few (I (u 1)) 300) (hp1 : 0 ≤ I t 2 ∧ I t 2 ≤ 100) (hp2 : 0 ≤ I t 3 ∧ I t 3 ≤ 100) (hx : tst x) (hy : tst y) (hn : 0 ≤ n ∧ n ≤ 2) (hd : 5 ≤ d) :
    jC E yX4_weigh cX4_weigh 10 none d [jp t, jp b, ji n, ji x, ji y] (habR I b h) P (jD none (habR I b (weigh (I (u 0)) (I (u 1)) (I t 2) (I t 3) n x y h)) P) := by
  have ht0 := ht
  obtain ⟨h0, p0, p1, a0, a1, hne⟩ := ht
  have n0 : u 0 ≠ b := jne a0.2.1 hb.2 (by decide)
  have n1 : u 1 ≠ b := jne a1.2.1 hb.2 (by decide)
  have nt : t ≠ b := jne h0.2 hb.2 (by decide)
  have e0 : habR I b h (u 0) = I (u 0) := funext (fun k => habR_x n0 k)
  have e1 : habR I b h (u 1) = I (u 1) := funext (fun k => habR_x n1 k)
  have hf' : few (habR I b h (u 0)) 3 := by rw [e0]; exact hf
  have hg' : few (habR I b h (u 1)) 300 := by rw [e1]; exact hg
  refine jC_intro (by decide +kernel) (by simp [jc, va_rf, Value.category]) (Nat.le_of_ble_eq_true rfl) ?_
  refine jJ_iconst (pc := 0) dX4_weigh_0 (by decide) ?_
  refine jJ_istore (pc := 1) (ls' := [_, _, _, _, _, _, _, _, _, _]) dX4_weigh_1 (Nat.le_of_ble_eq_true rfl) rfl ?_
  refine jJ_iconst (pc := 3) dX4_weigh_3 (by decide) ?_
  refine jJ_istore (pc := 4) (ls' := [_, _, _, _, _, _, _, _, _, _]) dX4_weigh_4 (Nat.le_of_ble_eq_true rfl) rfl ?_
  refine jJ_iconst (pc := 6) dX4_weigh_6 (by decide) ?_
  refine jJ_istore (pc := 7) (ls' := [_, _, _, _, _, _, _, _, _, _]) dX4_weigh_7 (Nat.le_of_ble_eq_true rfl) rfl ?_
  refine jJ_iconst (pc := 9) dX4_weigh_9 (by decide) ?_
  refine jJ_istore (pc := 10) (ls' := [_, _, _, _, _, _, _, _, _, _]) dX4_weigh_10 (Nat.le_of_ble_eq_true rfl) rfl ?_
  refine weigh_iter ht0 hf' hg' hx hy ⟨by decide, by decide⟩ ⟨by decide, by decide⟩ ⟨by decide, by decide⟩ ⟨by decide, by decide⟩ (by omega) ?_
  refine weigh_iter ht0 hf' hg' hx hy ⟨by decide, by decide⟩ (chp_cho ⟨by decide, by decide⟩ ⟨by decide, by decide⟩) (chp_cho ⟨by decide, by decide⟩ ⟨by decide, by decide⟩) (chp_cho ⟨by decide, by decide⟩ ⟨by decide, by decide⟩) (by omega) ?_
  rw [e0, e1, habR_x nt]
  show jJ E yX4_weigh.cls cX4_weigh 10 none (jRm d) _ 0 0 12 [some (jp t), some (jp b), some (ji n), some (ji x), some (ji y), some (ji (pick (I t 3) (wWh (I (u 1)) x))), some (ji (pick (I t 3) (wSe (I (u 1)) x y))), some (ji (pick (I t 3) (wLa (I (u 0)) (I (u 1)) x y))), some (ji 3), none] [] (habR I b h) P
  have r1 := wWh_r hg hx (pick_cho (xp := I t 3) (h := wWh (I (u 1)) x))
  have r2 := wSe_r hg hx hy (pick_cho (xp := I t 3) (h := wSe (I (u 1)) x y))
  have r3 := wLa_r hf hg hx hy (pick_cho (xp := I t 3) (h := wLa (I (u 0)) (I (u 1)) x y))
  have q1 := pick_cho (xp := I t 3) (h := wWh (I (u 1)) x)
  have q2 := pick_cho (xp := I t 3) (h := wSe (I (u 1)) x y)
  have q3 := pick_cho (xp := I t 3) (h := wLa (I (u 0)) (I (u 1)) x y)
  have hex : -36000 ≤ wEx (I (u 0)) (I (u 1)) (I t 3) x y ∧ wEx (I (u 0)) (I (u 1)) (I t 3) x y ≤ 36000 := by unfold wEx; omega
  have hm1 : 0 ≤ n * I t 2 ∧ n * I t 2 ≤ 200 := by
    have : n = 0 ∨ n = 1 ∨ n = 2 := by omega
    rcases this with rfl | rfl | rfl <;> omega
  have hm2 : -3600000 ≤ wEx (I (u 0)) (I (u 1)) (I t 3) x y * I t 3 ∧ wEx (I (u 0)) (I (u 1)) (I t 3) x y * I t 3 ≤ 3600000 := by
    generalize wEx (I (u 0)) (I (u 1)) (I t 3) x y = w at hex
    generalize I t 3 = v at hp2
    constructor
    · have := Int.mul_le_mul_of_nonneg_right (a := -36000) (b := w) (c := v) hex.1 hp2.1
      omega
    · have := Int.mul_le_mul_of_nonneg_right (a := w) (b := 36000) (c := v) hex.2 hp2.1
      omega
  refine jJ_iload (pc := 12) dX4_weigh_12 rfl ?_
  refine jJ_iconst (pc := 14) dX4_weigh_14 (by decide) ?_
  refine jJ_icmp_ge (pc := 15) (tgt := 107) dX4_weigh_15 (by decide) (fun c15 => ?_) (fun c15 => ?_)
  · refine jJ_aload_n (pc := 107) dX4_weigh_107 rfl ?_
    refine jJ_iload_n (pc := 108) dX4_weigh_108 rfl ?_
    refine jJ_iload (pc := 109) dX4_weigh_109 rfl ?_
    refine jJ_callVd (pc := 111) (as := [_, _]) dX4_weigh_111 mX4_36 (jRcv_of (by assumption) rfl rfl) (Nat.le_of_ble_eq_true rfl) (jRm_ok (by omega) (by decide)) (c_Tally_wrongByFirst (d := d - 1) ht0 hx q1 (by omega)) ?_
    refine jJ_aload_n (pc := 114) dX4_weigh_114 rfl ?_
    refine jJ_iload_n (pc := 115) dX4_weigh_115 rfl ?_
    refine jJ_iload (pc := 116) dX4_weigh_116 rfl ?_
    refine jJ_iload (pc := 118) dX4_weigh_118 rfl ?_
    refine jJ_callVd (pc := 120) (as := [_, _, _]) dX4_weigh_120 mX4_39 (jRcv_of (by assumption) rfl rfl) (Nat.le_of_ble_eq_true rfl) (jRm_ok (by omega) (by decide)) (c_Tally_wrongBySecond (d := d - 1) ht0 hg' hx hy q2 (by omega)) ?_
    rw [e1]
    refine jJ_iadd (pc := 123) dX4_weigh_123 ⟨by omega, by omega⟩ ?_
    refine jJ_aload_n (pc := 124) dX4_weigh_124 rfl ?_
    refine jJ_iload_n (pc := 125) dX4_weigh_125 rfl ?_
    refine jJ_iload (pc := 126) dX4_weigh_126 rfl ?_
    refine jJ_iload (pc := 128) dX4_weigh_128 rfl ?_
    refine jJ_callVd (pc := 130) (as := [_, _, _]) dX4_weigh_130 mX4_66 (jRcv_of (by assumption) rfl rfl) (Nat.le_of_ble_eq_true rfl) (jRm_ok (by omega) (by decide)) (c_Tally_wrongByLast (d := d - 1) ht0 hf' hg' hx hy q3 (by omega)) ?_
    rw [e0, e1]
    refine jJ_iadd (pc := 133) dX4_weigh_133 ⟨by omega, by omega⟩ ?_
    refine jJ_istore (pc := 134) (ls' := [_, _, _, _, _, _, _, _, _, _]) dX4_weigh_134 (Nat.le_of_ble_eq_true rfl) rfl ?_
    refine jJ_iload_n (pc := 136) dX4_weigh_136 rfl ?_
    refine jJ_aload_n (pc := 137) dX4_weigh_137 rfl ?_
    refine jJ_geti (pc := 138) dX4_weigh_138 fX4_42 rfl (by assumption) ?_
    rw [habR_x nt]
    refine jJ_imul (pc := 141) dX4_weigh_141 ⟨by omega, by omega⟩ ?_
    refine jJ_iload (pc := 142) dX4_weigh_142 rfl ?_
    refine jJ_aload_n (pc := 144) dX4_weigh_144 rfl ?_
    refine jJ_geti (pc := 145) dX4_weigh_145 fX4_46 rfl (by assumption) ?_
    rw [habR_x nt]
    show jJ E yX4_weigh.cls cX4_weigh 10 none (jRm d) _ 0 0 148 [some (jp t), some (jp b), some (ji n), some (ji x), some (ji y), some (ji (pick (I t 3) (wWh (I (u 1)) x))), some (ji (pick (I t 3) (wSe (I (u 1)) x y))), some (ji (pick (I t 3) (wLa (I (u 0)) (I (u 1)) x y))), some (ji (wEx (I (u 0)) (I (u 1)) (I t 3) x y)), none] [ji (I t 3), ji (wEx (I (u 0)) (I (u 1)) (I t 3) x y), ji (n * I t 2)] (habR I b h) P
    refine jJ_imul (pc := 148) dX4_weigh_148 ⟨by omega, by omega⟩ ?_
    refine jJ_iadd (pc := 149) dX4_weigh_149 ⟨by omega, by omega⟩ ?_
    refine jJ_istore (pc := 150) (ls' := [_, _, _, _, _, _, _, _, _, _]) dX4_weigh_150 (Nat.le_of_ble_eq_true rfl) rfl ?_
    show jJ E yX4_weigh.cls cX4_weigh 10 none (jRm d) _ 0 0 152 [some (jp t), some (jp b), some (ji n), some (ji x), some (ji y), some (ji (pick (I t 3) (wWh (I (u 1)) x))), some (ji (pick (I t 3) (wSe (I (u 1)) x y))), some (ji (pick (I t 3) (wLa (I (u 0)) (I (u 1)) x y))), some (ji (wEx (I (u 0)) (I (u 1)) (I t 3) x y)), some (ji (wCo (I (u 0)) (I (u 1)) (I t 2) (I t 3) n x y))] [] (habR I b h) P
    have fin : (n = 0 ∨ wCo (I (u 0)) (I (u 1)) (I t 2) (I t 3) n x y < h 6) → jJ E yX4_weigh.cls cX4_weigh 10 none (jRm d) (jZ E (jD none (habR I b (weigh (I (u 0)) (I (u 1)) (I t 2) (I t 3) n x y h)) P)) 0 0 165 [some (jp t), some (jp b), some (ji n), some (ji x), some (ji y), some (ji (pick (I t 3) (wWh (I (u 1)) x))), some (ji (pick (I t 3) (wSe (I (u 1)) x y))), some (ji (pick (I t 3) (wLa (I (u 0)) (I (u 1)) x y))), some (ji (wEx (I (u 0)) (I (u 1)) (I t 3) x y)), some (ji (wCo (I (u 0)) (I (u 1)) (I t 2) (I t 3) n x y))] [] (habR I b h) P := by
      intro hc
      have g2 : ∀ (l1 l2 : Int), l1 = (if 0 < n then pick (I t 3) (wWh (I (u 1)) x) else -1) → l2 = (if 1 < n then pick (I t 3) (wSe (I (u 1)) x y) else -1) → jJ E yX4_weigh.cls cX4_weigh 10 none (jRm d) (jZ E (jD none (habR I b (weigh (I (u 0)) (I (u 1)) (I t 2) (I t 3) n x y h)) P)) 0 0 194 [some (jp t), some (jp b), some (ji n), some (ji x), some (ji y), some (ji (pick (I t 3) (wWh (I (u 1)) x))), some (ji (pick (I t 3) (wSe (I (u 1)) x y))), some (ji (pick (I t 3) (wLa (I (u 0)) (I (u 1)) x y))), some (ji (wEx (I (u 0)) (I (u 1)) (I t 3) x y)), some (ji (wCo (I (u 0)) (I (u 1)) (I t 2) (I t 3) n x y))] [ji l2, ji y, jp b] (jput (jput (habR I b h) b 1 x) b 2 l1) P := by
        intro l1 l2 hl1 hl2
        refine jJ_callVd (pc := 194) (as := [_, _]) dX4_weigh_194 mX4_72 (jRcv_of (by assumption) rfl rfl) (Nat.le_of_ble_eq_true rfl) (jRm_ok (by omega) (by decide)) (c_Habit_setSecond (d := d - 1) hb) ?_
        refine jJ_aload_n (pc := 197) dX4_weigh_197 rfl ?_
        refine jJ_iload_n (pc := 198) dX4_weigh_198 rfl ?_
        refine jJ_iload (pc := 199) dX4_weigh_199 rfl ?_
        refine jJ_iload (pc := 201) dX4_weigh_201 rfl ?_
        refine jJ_iload (pc := 203) dX4_weigh_203 rfl ?_
        refine jJ_callVd (pc := 205) (as := [_, _, _, _]) dX4_weigh_205 mX4_75 (jRcv_of (by assumption) rfl rfl) (Nat.le_of_ble_eq_true rfl) (jRm_ok (by omega) (by decide)) (c_Habit_setRest (d := d - 1) hb) ?_
        refine jJ_vret (pc := 208) dX4_weigh_208 rfl ?_
        refine ⟨rfl, ?_, rfl⟩
        simp only [habR_put (show (0:Nat) < 8 by decide), habR_put (show (1:Nat) < 8 by decide), habR_put (show (2:Nat) < 8 by decide), habR_put (show (3:Nat) < 8 by decide), habR_put (show (4:Nat) < 8 by decide), habR_put (show (5:Nat) < 8 by decide), habR_put (show (6:Nat) < 8 by decide), habR_put (show (7:Nat) < 8 by decide)]
        rw [weigh, if_pos hc]
        apply habR_ext
        intro k hk
        have hk8 : k = 0 ∨ k = 1 ∨ k = 2 ∨ k = 3 ∨ k = 4 ∨ k = 5 ∨ k = 6 ∨ k = 7 := by omega
        rw [← hl1, ← hl2]
        rcases hk8 with rfl | rfl | rfl | rfl | rfl | rfl | rfl | rfl <;> rfl
      have g1 : ∀ (l1 : Int), l1 = (if 0 < n then pick (I t 3) (wWh (I (u 1)) x) else -1) → jJ E yX4_weigh.cls cX4_weigh 10 none (jRm d) (jZ E (jD none (habR I b (weigh (I (u 0)) (I (u 1)) (I t 2) (I t 3) n x y h)) P)) 0 0 177 [some (jp t), some (jp b), some (ji n), some (ji x), some (ji y), some (ji (pick (I t 3) (wWh (I (u 1)) x))), some (ji (pick (I t 3) (wSe (I (u 1)) x y))), some (ji (pick (I t 3) (wLa (I (u 0)) (I (u 1)) x y))), some (ji (wEx (I (u 0)) (I (u 1)) (I t 3) x y)), some (ji (wCo (I (u 0)) (I (u 1)) (I t 2) (I t 3) n x y))] [ji l1, ji x, jp b] (habR I b h) P := by
        intro l1 hl1
        refine jJ_callVd (pc := 177) (as := [_, _]) dX4_weigh_177 mX4_69 (jRcv_of (by assumption) rfl rfl) (Nat.le_of_ble_eq_true rfl) (jRm_ok (by omega) (by decide)) (c_Habit_setFirst (d := d - 1) hb) ?_
        refine jJ_aload_n (pc := 180) dX4_weigh_180 rfl ?_
        refine jJ_iload (pc := 181) dX4_weigh_181 rfl ?_
        refine jJ_iload_n (pc := 183) dX4_weigh_183 rfl ?_
        refine jJ_iconst (pc := 184) dX4_weigh_184 (by decide) ?_
        refine jJ_icmp_le (pc := 185) (tgt := 193) dX4_weigh_185 (by decide) (fun c185 => ?_) (fun c185 => ?_)
        · refine jJ_iconst (pc := 193) dX4_weigh_193 (by decide) ?_
          exact g2 l1 (-1) hl1 (by rw [if_neg (by omega)])
        · refine jJ_iload (pc := 188) dX4_weigh_188 rfl ?_
          refine jJ_goto (pc := 190) (tgt := 194) dX4_weigh_190 (by decide) ?_
          exact g2 l1 _ hl1 (by rw [if_pos (by omega)])
      refine jJ_aload_n (pc := 165) dX4_weigh_165 rfl ?_
      refine jJ_iload_n (pc := 166) dX4_weigh_166 rfl ?_
      refine jJ_iload_n (pc := 167) dX4_weigh_167 rfl ?_
      refine jJ_if_le (pc := 168) (tgt := 176) dX4_weigh_168 (by decide) (fun c168 => ?_) (fun c168 => ?_)
      · refine jJ_iconst (pc := 176) dX4_weigh_176 (by decide) ?_
        exact g1 (-1) (by rw [if_neg (by omega)])
      · refine jJ_iload (pc := 171) dX4_weigh_171 rfl ?_
        refine jJ_goto (pc := 173) (tgt := 177) dX4_weigh_173 (by decide) ?_
        exact g1 _ (by rw [if_pos (by omega)])
    refine jJ_iload_n (pc := 152) dX4_weigh_152 rfl ?_
    refine jJ_if_eq (pc := 153) (tgt := 165) dX4_weigh_153 (by decide) (fun c153 => ?_) (fun c153 => ?_)
    · exact fin (Or.inl c153)
    · refine jJ_iload (pc := 156) dX4_weigh_156 rfl ?_
      refine jJ_aload_n (pc := 158) dX4_weigh_158 rfl ?_
      refine jJ_geti (pc := 159) dX4_weigh_159 fX4_53 rfl (by assumption) ?_
      rw [habR_s (by decide)]
      refine jJ_icmp_ge (pc := 162) (tgt := 208) dX4_weigh_162 (by decide) (fun c162 => ?_) (fun c162 => ?_)
      · refine jJ_vret (pc := 208) dX4_weigh_208 rfl ?_
        exact ⟨rfl, by rw [weigh, if_neg (by omega)], rfl⟩
      · exact fin (Or.inr c162)
  · exfalso
    omega
end JWeigh
