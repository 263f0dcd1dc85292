section JPub2
variable {E : jE} {I : jI} {P : jP} {d : Nat} {h : Nat}
/-- how many gaps of this kind and choice the k TEXTS from t on have -/
def seM (I : jI) (x : Nat → Nat) (q : Nat → Nat → Nat) (kd ch : Int) : Nat → Nat → Int
  | _, 0 => 0
  | t, k + 1 => (if I (x t) 8 ≠ 0 then cntG (I (q t 6)) (I (q t 7)) kd ch 0 (gapsN (I (x t) 11)) else 0) + seM I x q kd ch (t + 1) k
theorem seen_loop {tx : Nat} {x : Nat → Nat} {q : Nat → Nat → Nat} {kd ch : Int} {X : String → jI → jP → Prop} (h0 : jK E 6 h) (hT : TsL E P h tx x q) (hI : ∀ t, t < 12 → I (x t) 8 ≠ 0 → I (x t) 11 ≤ 200) (hc : (0 ≤ kd ∧ kd ≤ 15) ∧ -1 ≤ ch ∧ ch ≤ 3) (hd : 6 ≤ d) :
    ∀ (k t : Nat) (s : Int), t + k = 12 → 0 ≤ s → s ≤ 200 * t → jJ E yX6_seen.cls cX6_seen 5 (some .int) (jRmx d 1) (jZx E (jDc ((0 ≤ kd ∧ kd ≤ 15) ∧ -1 ≤ ch ∧ ch ≤ 3) (some (ji (s + seM I x q kd ch t k))) I P) X 1) 0 0 33 [some (jp h), some (ji kd), some (ji ch), some (ji s), some (ji (t : Int))] [] I P := by
  obtain ⟨p2, atx, hTs⟩ := hT
  intro k
  induction k with
  | zero =>
    intro t s ht h1 h2
    refine jJ_iload (pc := 33) dX6_seen_33 rfl ?_
    refine jJ_bipush (pc := 35) dX6_seen_35 (by decide) ?_
    refine jJ_icmp_ge (pc := 37) (tgt := 74) dX6_seen_37 (by decide) (fun c37 => ?_) (fun c37 => ?_)
    · refine jJ_iload_n (pc := 74) dX6_seen_74 rfl ?_
      refine jJ_iretx (pc := 75) dX6_seen_75 rfl ⟨by decide, by decide⟩ ?_
      exact ⟨hc, by rw [seM, Int.add_zero], rfl, rfl⟩
    · exfalso
      omega
  | succ k ih =>
    intro t s ht h1 h2
    obtain ⟨pt, hx⟩ := hTs t (by omega)
    have kt := hx.1
    have ptn : P tx ((t : Int)).toNat = some (x t) := by rw [Int.toNat_natCast]; exact pt
    refine jJ_iload (pc := 33) dX6_seen_33 rfl ?_
    refine jJ_bipush (pc := 35) dX6_seen_35 (by decide) ?_
    refine jJ_icmp_ge (pc := 37) (tgt := 74) dX6_seen_37 (by decide) (fun c37 => ?_) (fun c37 => ?_)
    · exfalso
      omega
    · refine jJ_aload_n (pc := 40) dX6_seen_40 rfl ?_
      refine jJ_getr (pc := 41) dX6_seen_41 fX6_15 rfl (by assumption) (by first | exact p2 | exact ptn) ?_
      refine jJ_iload (pc := 44) dX6_seen_44 rfl ?_
      refine jJ_aald (pc := 46) (t0 := 5) dX6_seen_46 atx rfl (by decide) ⟨by omega, by omega⟩ (by first | exact p2 | exact ptn) ?_
      refine jJ_geti (pc := 47) dX6_seen_47 fX6_114 rfl (by assumption) ?_
      refine jJ_if_eq (pc := 50) (tgt := 68) dX6_seen_50 (by decide) (fun c50 => ?_) (fun c50 => ?_)
      · refine jJ_iinc (pc := 68) (ls' := [_, _, _, _, _]) dX6_seen_68 rfl ⟨by omega, by omega⟩ rfl ?_
        refine jJ_goto (pc := 71) (tgt := 33) dX6_seen_71 (by decide) ?_
        rw [seM, if_neg (by simp [c50]), Int.zero_add]
        exact ih (t + 1) s (by omega) h1 (by omega)
      · have hr := cntG_rng (I (q t 6)) (I (q t 7)) kd ch (gapsN (I (x t) 11)) 0
        have hgn : gapsN (I (x t) 11) ≤ 199 := by have := hI t (by omega) c50; unfold gapsN; split <;> omega
        refine jJ_iload_n (pc := 53) dX6_seen_53 rfl ?_
        refine jJ_aload_n (pc := 54) dX6_seen_54 rfl ?_
        refine jJ_getr (pc := 55) dX6_seen_55 fX6_15 rfl (by assumption) (by first | exact p2 | exact ptn) ?_
        refine jJ_iload (pc := 58) dX6_seen_58 rfl ?_
        refine jJ_aald (pc := 60) (t0 := 5) dX6_seen_60 atx rfl (by decide) ⟨by omega, by omega⟩ (by first | exact p2 | exact ptn) ?_
        refine jJ_iload_n (pc := 61) dX6_seen_61 rfl ?_
        refine jJ_iload_n (pc := 62) dX6_seen_62 rfl ?_
        refine jJ_callVd (pc := 63) (as := [_, _]) dX6_seen_63 mX6_157 (jRcv_of (by assumption) rfl rfl) (Nat.le_of_ble_eq_true rfl) (jRmx_ok (by omega) (by decide) (by decide) (by decide)) (c_Text_countGaps (d := d - 1) hx (hI t (by omega) c50) (by omega)) ?_
        refine jJ_iadd (pc := 66) dX6_seen_66 ⟨by omega, by omega⟩ ?_
        refine jJ_istore_n (pc := 67) (ls' := [_, _, _, _, _]) dX6_seen_67 (Nat.le_of_ble_eq_true rfl) rfl ?_
        refine jJ_iinc (pc := 68) (ls' := [_, _, _, _, _]) dX6_seen_68 rfl ⟨by omega, by omega⟩ rfl ?_
        refine jJ_goto (pc := 71) (tgt := 33) dX6_seen_71 (by decide) ?_
        rw [seM, if_pos c50, ← Int.add_assoc]
        exact ih (t + 1) _ (by omega) (by omega) (by omega)
theorem c_seen {tx : Nat} {x : Nat → Nat} {q : Nat → Nat → Nat} {kd ch : Int} (hl : (eX E).stackTraces = false) (h0 : jK E 6 h) (hT : TsL E P h tx x q) (hI : ∀ t, t < 12 → I (x t) 8 ≠ 0 → I (x t) 11 ≤ 200) (hd : 6 ≤ d) :
    jCx E yX6_seen cX6_seen 5 (some .int) d 1 [jp h, ji kd, ji ch] I P (jDc ((0 ≤ kd ∧ kd ≤ 15) ∧ -1 ≤ ch ∧ ch ≤ 3) (some (ji (seM I x q kd ch 0 12))) I P) (jXx (¬ ((0 ≤ kd ∧ kd ≤ 15) ∧ -1 ≤ ch ∧ ch ≤ 3)) jIAE I P) := by
  have k33 : ((0 ≤ kd ∧ kd ≤ 15) ∧ -1 ≤ ch ∧ ch ≤ 3) → jJ E yX6_seen.cls cX6_seen 5 (some .int) (jRmx d 1) (jZx E (jDc ((0 ≤ kd ∧ kd ≤ 15) ∧ -1 ≤ ch ∧ ch ≤ 3) (some (ji (seM I x q kd ch 0 12))) I P) (jXx (¬ ((0 ≤ kd ∧ kd ≤ 15) ∧ -1 ≤ ch ∧ ch ≤ 3)) jIAE I P) 1) 0 0 33 [some (jp h), some (ji kd), some (ji ch), some (ji 0), some (ji 0)] [] I P := by
    intro hc
    have k := seen_loop (X := jXx (¬ ((0 ≤ kd ∧ kd ≤ 15) ∧ -1 ≤ ch ∧ ch ≤ 3)) jIAE I P) h0 hT hI hc hd 12 0 0 (by omega) (by omega) (by omega)
    rw [Int.zero_add] at k
    exact k
  refine jCx_intro (by decide +kernel) (by simp [jc, va_rf, Value.category]) (Nat.le_of_ble_eq_true rfl) ?_
  refine jJ_iload_n (pc := 0) dX6_seen_0 rfl ?_
  refine jJ_if_lt (pc := 1) (tgt := 20) dX6_seen_1 (by decide) (fun c1 => ?_) (fun c1 => ?_)
  · refine jJ_throw (pc := 20) hl rfl jth_IAE dX6_seen_20 dX6_seen_23 dX6_seen_24 dX6_seen_27 (Nat.le_of_ble_eq_true rfl) (by omega) ⟨by decide, by decide⟩ ?_
    exact ⟨by omega, rfl, rfl, rfl⟩
  · refine jJ_iload_n (pc := 4) dX6_seen_4 rfl ?_
    refine jJ_bipush (pc := 5) dX6_seen_5 (by decide) ?_
    refine jJ_icmp_ge (pc := 7) (tgt := 20) dX6_seen_7 (by decide) (fun c7 => ?_) (fun c7 => ?_)
    · refine jJ_throw (pc := 20) hl rfl jth_IAE dX6_seen_20 dX6_seen_23 dX6_seen_24 dX6_seen_27 (Nat.le_of_ble_eq_true rfl) (by omega) ⟨by decide, by decide⟩ ?_
      exact ⟨by omega, rfl, rfl, rfl⟩
    · refine jJ_iload_n (pc := 10) dX6_seen_10 rfl ?_
      refine jJ_iconst (pc := 11) dX6_seen_11 (by decide) ?_
      refine jJ_icmp_lt (pc := 12) (tgt := 20) dX6_seen_12 (by decide) (fun c12 => ?_) (fun c12 => ?_)
      · refine jJ_throw (pc := 20) hl rfl jth_IAE dX6_seen_20 dX6_seen_23 dX6_seen_24 dX6_seen_27 (Nat.le_of_ble_eq_true rfl) (by omega) ⟨by decide, by decide⟩ ?_
        exact ⟨by omega, rfl, rfl, rfl⟩
      · refine jJ_iload_n (pc := 15) dX6_seen_15 rfl ?_
        refine jJ_iconst (pc := 16) dX6_seen_16 (by decide) ?_
        refine jJ_icmp_le (pc := 17) (tgt := 28) dX6_seen_17 (by decide) (fun c17 => ?_) (fun c17 => ?_)
        · refine jJ_iconst (pc := 28) dX6_seen_28 (by decide) ?_
          refine jJ_istore_n (pc := 29) (ls' := [_, _, _, _, _]) dX6_seen_29 (Nat.le_of_ble_eq_true rfl) rfl ?_
          refine jJ_iconst (pc := 30) dX6_seen_30 (by decide) ?_
          refine jJ_istore (pc := 31) (ls' := [_, _, _, _, _]) dX6_seen_31 (Nat.le_of_ble_eq_true rfl) rfl ?_
          exact k33 (by omega)
        · refine jJ_throw (pc := 20) hl rfl jth_IAE dX6_seen_20 dX6_seen_23 dX6_seen_24 dX6_seen_27 (Nat.le_of_ble_eq_true rfl) (by omega) ⟨by decide, by decide⟩ ?_
          exact ⟨by omega, rfl, rfl, rfl⟩
/-- the memory behind text() -/
def txM (I : jI) (h sp rd op tp : Nat) (qs : Nat → Nat) (n hand t : Int) : jI := jput (jput (rpM (jput I h 1 0) h sp rd op tp qs n hand t) h 5 (rpR (jput I h 1 0) sp rd op tp qs n hand).1) h 6 (rpM (jput I h 1 0) h sp rd op tp qs n hand t rd 7)
theorem c_text {tx sp rd op tp : Nat} {x : Nat → Nat} {qs : Nat → Nat} {n hand t : Int} (hl : (eX E).stackTraces = false) (h0 : jK E 6 h) (p0 : P h 0 = some tp) (a0 : jAr E 8 tp 800) (p2 : P h 2 = some tx) (atx : jAr E 13 tx 12) (hts : ∀ t, t < 12 → P tx t = some (x t) ∧ jK E 5 (x t)) (p3 : P h 3 = some sp) (p4 : P h 4 = some rd) (hr : RdL E P rd op) (hx : TxL E P sp qs) (hq : TxD qs) (hqo : ∀ j, j ≤ 7 → qs j ≠ op) (hb : ∀ i : Nat, i < 800 → -128 ≤ I tp i ∧ I tp i ≤ 127) (h1 : 0 ≤ I h 1 ∧ I h 1 ≤ 800) (hd : 10 ≤ d) :
    jCx E yX6_text cX6_text 4 (some .int) d 1 [jp h, ji t, ji hand, ji n] I P (jDc ((0 ≤ t ∧ t < 12) ∧ (0 ≤ hand ∧ hand ≤ 3) ∧ 0 ≤ n ∧ n ≤ I h 1) (some (ji (rpR (jput I h 1 0) sp rd op tp qs n hand).1)) (txM I h sp rd op tp qs n hand t) (rpP (jput I h 1 0) P h sp rd op tp tx (x t.toNat) qs n hand t.toNat)) (jXx (¬ ((0 ≤ t ∧ t < 12) ∧ (0 ≤ hand ∧ hand ≤ 3) ∧ 0 ≤ n ∧ n ≤ I h 1)) jIAE I P) := by
  have hpP : ∀ k, k ≠ 3 → rpP (jput I h 1 0) P h sp rd op tp tx (x t.toNat) qs n hand t.toNat h k = P h k := by
    intro k hk
    have hht : h ≠ tx := jne h0.2 atx.2.1 (by decide)
    unfold rpP
    split
    · rfl
    · simp [jputP, hk, hht]
  have hhr : rd ≠ h := jne hr.1.2 h0.2 (by decide)
  have ht0 : h ≠ tp := jne h0.2 a0.2.1 (by decide)
  have k36 : ((0 ≤ t ∧ t < 12) ∧ (0 ≤ hand ∧ hand ≤ 3) ∧ 0 ≤ n ∧ n ≤ I h 1) → jJ E yX6_text.cls cX6_text 4 (some .int) (jRmx d 1) (jZx E (jDc ((0 ≤ t ∧ t < 12) ∧ (0 ≤ hand ∧ hand ≤ 3) ∧ 0 ≤ n ∧ n ≤ I h 1) (some (ji (rpR (jput I h 1 0) sp rd op tp qs n hand).1)) (txM I h sp rd op tp qs n hand t) (rpP (jput I h 1 0) P h sp rd op tp tx (x t.toNat) qs n hand t.toNat)) (jXx (¬ ((0 ≤ t ∧ t < 12) ∧ (0 ≤ hand ∧ hand ≤ 3) ∧ 0 ≤ n ∧ n ≤ I h 1)) jIAE I P) 1) 0 0 36 [some (jp h), some (ji t), some (ji hand), some (ji n)] [] I P := by
    intro hc
    obtain ⟨pt, kt⟩ := hts t.toNat (by omega)
    have k := c_replaceText (I := jput I h 1 0) (P := P) (d := d - 1) (t := t.toNat) (n := n) (hand := hand) (s := tp) (ns := 800) h0 p2 atx p3 p4 hr hx hq hqo (by omega) pt kt a0 (by decide) (fun i hi => by rw [jput_a _ ht0.symm]; exact hb i hi) (by omega) (by omega)
    rw [show ((t.toNat : Nat) : Int) = t by omega] at k
    refine jJ_aload_n (pc := 36) dX6_text_36 rfl ?_
    refine jJ_iconst (pc := 37) dX6_text_37 (by decide) ?_
    refine jJ_puti (pc := 38) dX6_text_38 fX6_79w rfl ⟨rfl, rfl⟩ (by assumption) ?_
    refine jJ_aload_n (pc := 41) dX6_text_41 rfl ?_
    refine jJ_aload_n (pc := 42) dX6_text_42 rfl ?_
    refine jJ_iload_n (pc := 43) dX6_text_43 rfl ?_
    refine jJ_iload_n (pc := 44) dX6_text_44 rfl ?_
    refine jJ_aload_n (pc := 45) dX6_text_45 rfl ?_
    refine jJ_getr (pc := 46) dX6_text_46 fX6_9 rfl (by assumption) p0 ?_
    refine jJ_iload_n (pc := 49) dX6_text_49 rfl ?_
    refine jJ_callVd (pc := 50) (as := [_, _, _, _]) dX6_text_50 mX6_93 (jRcv_of (by assumption) rfl rfl) (Nat.le_of_ble_eq_true rfl) (jRmx_ok (by omega) (by decide) (by decide) (by decide)) (k) ?_
    have p4' : rpP (jput I h 1 0) P h sp rd op tp tx (x t.toNat) qs n hand t.toNat h 4 = some rd := by rw [hpP 4 (by decide)]; exact p4
    have kr := hr.1
    refine jJ_puti (pc := 53) dX6_text_53 fX6_97w rfl ⟨rfl, rfl⟩ (by assumption) ?_
    refine jJ_aload_n (pc := 56) dX6_text_56 rfl ?_
    refine jJ_aload_n (pc := 57) dX6_text_57 rfl ?_
    refine jJ_getr (pc := 58) dX6_text_58 fX6_27 rfl (by assumption) p4' ?_
    refine jJ_geti (pc := 61) dX6_text_61 fX6_100 rfl (by assumption) ?_
    rw [jput_a _ hhr]
    refine jJ_puti (pc := 64) dX6_text_64 fX6_31w rfl ⟨rfl, rfl⟩ (by assumption) ?_
    refine jJ_aload_n (pc := 67) dX6_text_67 rfl ?_
    refine jJ_geti (pc := 68) dX6_text_68 fX6_97 rfl (by assumption) ?_
    rw [jput_k _ (by decide), jput_s]
    refine jJ_iretx (pc := 71) dX6_text_71 rfl ⟨by decide, by decide⟩ ?_
    exact ⟨hc, rfl, rfl, rfl⟩
  refine jCx_intro (by decide +kernel) (by simp [jc, va_rf, Value.category]) (Nat.le_of_ble_eq_true rfl) ?_
  refine jJ_iload_n (pc := 0) dX6_text_0 rfl ?_
  refine jJ_callSd (pc := 1) (as := [_]) dX6_text_1 mX6_86 (Nat.le_of_ble_eq_true rfl) (jRmx_ok (by omega) (by decide) (by decide) (by decide)) (c_isTextNumber (d := d - 1)) ?_
  refine jJ_if_eq (pc := 4) (tgt := 28) dX6_text_4 (by decide) (fun c4 => ?_) (fun c4 => ?_)
  · try simp only [jb_z, jb_nz] at c4
    refine jJ_throw (pc := 28) hl rfl jth_IAE dX6_text_28 dX6_text_31 dX6_text_32 dX6_text_35 (Nat.le_of_ble_eq_true rfl) (by omega) ⟨by decide, by decide⟩ ?_
    exact ⟨by omega, rfl, rfl, rfl⟩
  · try simp only [jb_z, jb_nz] at c4
    refine jJ_iload_n (pc := 7) dX6_text_7 rfl ?_
    refine jJ_if_lt (pc := 8) (tgt := 28) dX6_text_8 (by decide) (fun c8 => ?_) (fun c8 => ?_)
    · try simp only [jb_z, jb_nz] at c8
      refine jJ_throw (pc := 28) hl rfl jth_IAE dX6_text_28 dX6_text_31 dX6_text_32 dX6_text_35 (Nat.le_of_ble_eq_true rfl) (by omega) ⟨by decide, by decide⟩ ?_
      exact ⟨by omega, rfl, rfl, rfl⟩
    · try simp only [jb_z, jb_nz] at c8
      refine jJ_iload_n (pc := 11) dX6_text_11 rfl ?_
      refine jJ_iconst (pc := 12) dX6_text_12 (by decide) ?_
      refine jJ_icmp_ge (pc := 13) (tgt := 28) dX6_text_13 (by decide) (fun c13 => ?_) (fun c13 => ?_)
      · try simp only [jb_z, jb_nz] at c13
        refine jJ_throw (pc := 28) hl rfl jth_IAE dX6_text_28 dX6_text_31 dX6_text_32 dX6_text_35 (Nat.le_of_ble_eq_true rfl) (by omega) ⟨by decide, by decide⟩ ?_
        exact ⟨by omega, rfl, rfl, rfl⟩
      · try simp only [jb_z, jb_nz] at c13
        refine jJ_iload_n (pc := 16) dX6_text_16 rfl ?_
        refine jJ_if_lt (pc := 17) (tgt := 28) dX6_text_17 (by decide) (fun c17 => ?_) (fun c17 => ?_)
        · try simp only [jb_z, jb_nz] at c17
          refine jJ_throw (pc := 28) hl rfl jth_IAE dX6_text_28 dX6_text_31 dX6_text_32 dX6_text_35 (Nat.le_of_ble_eq_true rfl) (by omega) ⟨by decide, by decide⟩ ?_
          exact ⟨by omega, rfl, rfl, rfl⟩
        · try simp only [jb_z, jb_nz] at c17
          refine jJ_iload_n (pc := 20) dX6_text_20 rfl ?_
          refine jJ_aload_n (pc := 21) dX6_text_21 rfl ?_
          refine jJ_geti (pc := 22) dX6_text_22 fX6_79 rfl (by assumption) ?_
          refine jJ_icmp_le (pc := 25) (tgt := 36) dX6_text_25 (by decide) (fun c25 => ?_) (fun c25 => ?_)
          · try simp only [jb_z, jb_nz] at c25
            exact k36 (by omega)
          · try simp only [jb_z, jb_nz] at c25
            refine jJ_throw (pc := 28) hl rfl jth_IAE dX6_text_28 dX6_text_31 dX6_text_32 dX6_text_35 (Nat.le_of_ble_eq_true rfl) (by omega) ⟨by decide, by decide⟩ ?_
            exact ⟨by omega, rfl, rfl, rfl⟩
/-- the number of the exception i, or how many there are -/
def excV (dif : Nat → Bool) (i : Int) : Nat → Nat → Int → Int
  | 0, _, c => if i = -1 then c else -1
  | k + 1, g, c => if dif g = true then (if c = i then (g : Int) else excV dif i k (g + 1) (c + 1)) else excV dif i k (g + 1) c
theorem exc_loop {x sy n : Nat} {q hb : Nat → Nat} {t i : Int} {c0 : Prop} {X : String → jI → jP → Prop} (h0 : jK E 6 h) (hSy : SyL E P h sy hb) (hx : TxL E P x q) (hc0 : c0) (hn : n = gapsN (I x 11)) (hG : TxG I x q) (hi : -1 ≤ i) (hd : 7 ≤ d) :
    ∀ (k g : Nat) (c : Int), g + k = n → 0 ≤ c → c ≤ g → jJ E yX6_exception.cls cX6_exception 7 (some .int) (jRmx d 2) (jZx E (jDc c0 (some (ji (excV (fun g => decide (tolV I x q hb g ≠ I (q 7) g)) i k g c))) I P) X 2) 1 6 40 [some (jp h), some (ji t), some (ji i), some (jp x), some (ji (n : Int)), some (ji c), some (ji (g : Int))] [] I P := by
  obtain ⟨p10, asy, hSs⟩ := hSy
  have hx0 := hx
  obtain ⟨g0, ⟨p0, p1, p2, p3, p4, p5, p6, p7⟩, ⟨a0, a1, a2, a3, a4, a5, a6, a7⟩⟩ := hx
  obtain ⟨hc, hg6, hg5, hg10⟩ := hG
  have hgn : n ≤ 199 := by rw [hn]; unfold gapsN; split <;> omega
  intro k
  induction k with
  | zero =>
    intro g c hg h1 h2
    refine jJ_iload (pc := 40) dX6_exception_40 rfl ?_
    refine jJ_iload (pc := 42) dX6_exception_42 rfl ?_
    refine jJ_icmp_ge (pc := 44) (tgt := 82) dX6_exception_44 (by decide) (fun c44 => ?_) (fun c44 => ?_)
    · refine jJ_iload_n (pc := 82) dX6_exception_82 rfl ?_
      refine jJ_iconst (pc := 83) dX6_exception_83 (by decide) ?_
      refine jJ_icmp_ne (pc := 84) (tgt := 92) dX6_exception_84 (by decide) (fun c84 => ?_) (fun c84 => ?_)
      · refine jJ_iconst (pc := 92) dX6_exception_92 (by decide) ?_
        refine jJ_iretx (pc := 93) dX6_exception_93 rfl ⟨by decide, by decide⟩ ?_
        exact ⟨hc0, by simp only [excV]; split <;> first | rfl | (exfalso; omega), rfl, rfl⟩
      · refine jJ_iload (pc := 87) dX6_exception_87 rfl ?_
        refine jJ_goto (pc := 89) (tgt := 93) dX6_exception_89 (by decide) ?_
        refine jJ_iretx (pc := 93) dX6_exception_93 rfl ⟨by decide, by decide⟩ ?_
        exact ⟨hc0, by simp only [excV]; split <;> first | rfl | (exfalso; omega), rfl, rfl⟩
    · exfalso
      omega
  | succ k ih =>
    intro g c hg h1 h2
    refine jJ_iload (pc := 40) dX6_exception_40 rfl ?_
    refine jJ_iload (pc := 42) dX6_exception_42 rfl ?_
    refine jJ_icmp_ge (pc := 44) (tgt := 82) dX6_exception_44 (by decide) (fun c44 => ?_) (fun c44 => ?_)
    · exfalso
      omega
    · refine jJ_aload_n (pc := 47) dX6_exception_47 rfl ?_
      refine jJ_aload_n (pc := 48) dX6_exception_48 rfl ?_
      refine jJ_iload (pc := 49) dX6_exception_49 rfl ?_
      refine jJ_callVd (pc := 51) (as := [_, _]) dX6_exception_51 mX6_187 (jRcv_of (by assumption) rfl rfl) (Nat.le_of_ble_eq_true rfl) (jRmx_ok (by omega) (by decide) (by decide) (by decide)) (c_toldAt (d := d - 1) h0 p10 asy hSs hx0 (by omega) (hg6 g (by omega)) (hg5 g (by omega)) hg10 (by omega)) ?_
      refine jJ_aload_n (pc := 54) dX6_exception_54 rfl ?_
      refine jJ_getr (pc := 55) dX6_exception_55 fX6_147 rfl (by assumption) (by assumption) ?_
      refine jJ_iload (pc := 58) dX6_exception_58 rfl ?_
      refine jJ_iald (pc := 60) dX6_exception_60 a7 ⟨by omega, by omega⟩ ?_
      rw [Int.toNat_natCast]
      refine jJ_icmp_eq (pc := 61) (tgt := 76) dX6_exception_61 (by decide) (fun c61 => ?_) (fun c61 => ?_)
      · refine jJ_iinc (pc := 76) (ls' := [_, _, _, _, _, _, _]) dX6_exception_76 rfl ⟨by omega, by omega⟩ rfl ?_
        refine jJ_goto (pc := 79) (tgt := 40) dX6_exception_79 (by decide) ?_
        rw [excV, if_neg (by simp [c61])]
        exact ih (g + 1) c (by omega) h1 (by omega)
      · rw [excV, if_pos (by simp [c61])]
        refine jJ_iload (pc := 64) dX6_exception_64 rfl ?_
        refine jJ_iload_n (pc := 66) dX6_exception_66 rfl ?_
        refine jJ_icmp_ne (pc := 67) (tgt := 73) dX6_exception_67 (by decide) (fun c67 => ?_) (fun c67 => ?_)
        · rw [if_neg c67]
          refine jJ_iinc (pc := 73) (ls' := [_, _, _, _, _, _, _]) dX6_exception_73 rfl ⟨by omega, by omega⟩ rfl ?_
          refine jJ_iinc (pc := 76) (ls' := [_, _, _, _, _, _, _]) dX6_exception_76 rfl ⟨by omega, by omega⟩ rfl ?_
          refine jJ_goto (pc := 79) (tgt := 40) dX6_exception_79 (by decide) ?_
          exact ih (g + 1) (c + 1) (by omega) (by omega) (by omega)
        · rw [if_pos c67]
          refine jJ_iload (pc := 70) dX6_exception_70 rfl ?_
          refine jJ_iretx (pc := 72) dX6_exception_72 rfl ⟨by decide, by decide⟩ ?_
          exact ⟨hc0, rfl, rfl, rfl⟩
theorem c_exception {tx sy : Nat} {x hb : Nat → Nat} {q : Nat → Nat → Nat} {t i : Int} (hl : (eX E).stackTraces = false) (h0 : jK E 6 h) (hSy : SyL E P h sy hb) (hT : TsL E P h tx x q) (hI : ∀ t, t < 12 → I (x t) 8 ≠ 0 → TxG I (x t) (q t)) (hd : 7 ≤ d) :
    jCx E yX6_exception cX6_exception 7 (some .int) d 2 [jp h, ji t, ji i] I P (jDc (exT I x t ∧ -1 ≤ i) (some (ji (if I h 11 = 0 then -1 else excV (fun g => decide (tolV I (x t.toNat) (q t.toNat) hb g ≠ I (q t.toNat 7) g)) i (gapsN (I (x t.toNat) 11)) 0 0))) I P) (fun Ec I' P' => ((¬ exT I x t ∧ Ec = jNSE) ∨ (exT I x t ∧ ¬ -1 ≤ i ∧ Ec = jIAE)) ∧ I' = I ∧ P' = P) := by
  have hT0 := hT
  obtain ⟨p2, atx, hTs⟩ := hT
  refine jCx_intro (by decide +kernel) (by simp [jc, va_rf, Value.category]) (Nat.le_of_ble_eq_true rfl) ?_
  refine jJ_aload_n (pc := 0) dX6_exception_0 rfl ?_
  refine jJ_iload_n (pc := 1) dX6_exception_1 rfl ?_
  refine jJ_callVx (pc := 2) (as := [_]) dX6_exception_2 mX6_124 (jRcv_of (by assumption) rfl rfl) (Nat.le_of_ble_eq_true rfl) (jRmx_ok (by omega) (by decide) (by decide) (by decide)) (c_existing (x := x) (d := d - 1) hl h0 p2 atx (fun t ht => ⟨(hTs t ht).1, (hTs t ht).2.1⟩) (by omega)) ⟨by decide, by decide⟩ ?_ ?_
  · rintro Ec I' P' ⟨hx, rfl, rfl, rfl⟩
    exact ⟨Or.inl ⟨hx, rfl⟩, rfl, rfl⟩
  · rintro r I' P' ⟨hx, rfl, rfl, rfl⟩
    have ht : t.toNat < 12 := by have := hx.1; have := hx.2.1; omega
    have hx5 := (hTs t.toNat ht).2
    have kt := hx5.1
    have hG := hI t.toNat ht hx.2.2
    refine jJ_astore_n (pc := 5) (ls' := [_, _, _, _, _, _, _]) dX6_exception_5 (Nat.le_of_ble_eq_true rfl) rfl ?_
    refine jJ_iload_n (pc := 6) dX6_exception_6 rfl ?_
    refine jJ_iconst (pc := 7) dX6_exception_7 (by decide) ?_
    refine jJ_icmp_ge (pc := 8) (tgt := 19) dX6_exception_8 (by decide) (fun c8 => ?_) (fun c8 => ?_)
    · refine jJ_aload_n (pc := 19) dX6_exception_19 rfl ?_
      refine jJ_geti (pc := 20) dX6_exception_20 fX6_171 rfl (by assumption) ?_
      refine jJ_if_ne (pc := 23) (tgt := 28) dX6_exception_23 (by decide) (fun c23 => ?_) (fun c23 => ?_)
      · refine jJ_aload_n (pc := 28) dX6_exception_28 rfl ?_
        refine jJ_callVd (pc := 29) (as := []) dX6_exception_29 mX6_140 (jRcv_of (by assumption) rfl rfl) (Nat.le_of_ble_eq_true rfl) (jRmx_ok (by omega) (by decide) (by decide) (by decide)) (c_Text_gapCount (d := d - 1) hx5) ?_
        rw [gapsN_eq]
        refine jJ_istore (pc := 32) (ls' := [_, _, _, _, _, _, _]) dX6_exception_32 (Nat.le_of_ble_eq_true rfl) rfl ?_
        refine jJ_iconst (pc := 34) dX6_exception_34 (by decide) ?_
        refine jJ_istore (pc := 35) (ls' := [_, _, _, _, _, _, _]) dX6_exception_35 (Nat.le_of_ble_eq_true rfl) rfl ?_
        refine jJ_iconst (pc := 37) dX6_exception_37 (by decide) ?_
        refine jJ_istore (pc := 38) (ls' := [_, _, _, _, _, _, _]) dX6_exception_38 (Nat.le_of_ble_eq_true rfl) rfl ?_
        rw [if_neg c23]
        exact exc_loop h0 hSy hx5 ⟨hx, by omega⟩ rfl hG (by omega) hd (gapsN (I' (x t.toNat) 11)) 0 0 (by omega) (by omega) (by omega)
      · refine jJ_iconst (pc := 26) dX6_exception_26 (by decide) ?_
        refine jJ_iretx (pc := 27) dX6_exception_27 rfl ⟨by decide, by decide⟩ ?_
        exact ⟨⟨hx, by omega⟩, by rw [if_pos c23], rfl, rfl⟩
    · refine jJ_throw (pc := 11) hl rfl jth_IAE dX6_exception_11 dX6_exception_14 dX6_exception_15 dX6_exception_18 (Nat.le_of_ble_eq_true rfl) (by omega) ⟨by decide, by decide⟩ ?_
      exact ⟨Or.inr ⟨hx, by omega, rfl⟩, rfl, rfl⟩
/-- the k TOKENS from i on are the same -/
def alkV (a b : Nat → List Int) : Nat → Nat → Bool
  | 0, _ => true
  | k + 1, i => if a i = b i then alkV a b k (i + 1) else false
theorem sameTok_iff {I : jI} {q r : Nat → Nat} {i j : Nat} (h1 : I (q 1) i ≤ I (q 2) i) (h2 : I (r 1) j ≤ I (r 2) j) : (I (r 2) j - I (r 1) j = I (q 2) i - I (q 1) i ∧ allE (I (q 0)) (I (r 0)) (I (q 1) i).toNat (I (r 1) j).toNat (I (q 2) i - I (q 1) i).toNat = true) ↔ tNm I q i = tNm I r j := by
  rw [allE_iff]
  unfold tNm
  constructor
  · rintro ⟨e1, e2⟩
    rw [e1]
    exact e2
  · intro e
    have hl := congrArg List.length e
    rw [rowF_len, rowF_len] at hl
    have e1 : I (r 2) j - I (r 1) j = I (q 2) i - I (q 1) i := by omega
    exact ⟨e1, by rw [e1] at e; exact e⟩
theorem alike_loop {x y n : Nat} {q r : Nat → Nat} {t u : Int} {c0 : Prop} {X : String → jI → jP → Prop} (hx : TxL E P x q) (hy : TxL E P y r) (hc0 : c0) (hn : I x 11 = (n : Int)) (hn2 : n ≤ 200) (h1 : TokR2 I q n) (h2 : TokR2 I r n) (hd : 7 ≤ d) :
    ∀ (k i : Nat), i + k = n → jJ E yX6_alike.cls cX6_alike 6 (some .boolean) (jRmx d 2) (jZx E (jDc c0 (some (ji (jb (alkV (tNm I q) (tNm I r) k i = true)))) I P) X 2) 2 12 30 [some (jp h), some (ji t), some (ji u), some (jp x), some (jp y), some (ji (i : Int))] [] I P := by
  have kx := hx.1
  have ky := hy.1
  intro k
  induction k with
  | zero =>
    intro i hi
    refine jJ_iload (pc := 30) dX6_alike_30 rfl ?_
    refine jJ_aload_n (pc := 32) dX6_alike_32 rfl ?_
    refine jJ_geti (pc := 33) dX6_alike_33 fX6_128 rfl kx ?_
    rw [hn]
    refine jJ_icmp_ge (pc := 36) (tgt := 60) dX6_alike_36 (by decide) (fun c36 => ?_) (fun c36 => ?_)
    · refine jJ_iconst (pc := 60) dX6_alike_60 (by decide) ?_
      refine jJ_zretx (pc := 61) dX6_alike_61 rfl (by decide) ⟨by decide, by decide⟩ ?_
      exact ⟨hc0, by simp [alkV, jb], rfl, rfl⟩
    · exfalso
      omega
  | succ k ih =>
    intro i hi
    have r1 := h1 i (by omega)
    have r2 := h2 i (by omega)
    refine jJ_iload (pc := 30) dX6_alike_30 rfl ?_
    refine jJ_aload_n (pc := 32) dX6_alike_32 rfl ?_
    refine jJ_geti (pc := 33) dX6_alike_33 fX6_128 rfl kx ?_
    rw [hn]
    refine jJ_icmp_ge (pc := 36) (tgt := 60) dX6_alike_36 (by decide) (fun c36 => ?_) (fun c36 => ?_)
    · exfalso
      omega
    · refine jJ_aload_n (pc := 39) dX6_alike_39 rfl ?_
      refine jJ_iload (pc := 40) dX6_alike_40 rfl ?_
      refine jJ_aload (pc := 42) dX6_alike_42 rfl ?_
      refine jJ_iload (pc := 44) dX6_alike_44 rfl ?_
      refine jJ_callVd (pc := 46) (as := [_, _, _]) dX6_alike_46 mX6_251 (jRcv_of hx.1 rfl rfl) (Nat.le_of_ble_eq_true rfl) (jRmx_ok (by omega) (by decide) (by decide) (by decide)) (c_Text_sameToken (d := d - 1) hx hy (by omega) (by omega) (by omega) (by omega) (by omega) (by omega) (by omega)) ?_
      refine jJ_if_ne (pc := 49) (tgt := 54) dX6_alike_49 (by decide) (fun c49 => ?_) (fun c49 => ?_)
      · simp only [jb_nz, sameTok_iff r1.2.1 r2.2.1] at c49
        refine jJ_iinc (pc := 54) (ls' := [_, _, _, _, _, _]) dX6_alike_54 rfl ⟨by omega, by omega⟩ rfl ?_
        refine jJ_goto (pc := 57) (tgt := 30) dX6_alike_57 (by decide) ?_
        rw [alkV, if_pos c49]
        exact ih (i + 1) (by omega)
      · simp only [jb_z, sameTok_iff r1.2.1 r2.2.1] at c49
        refine jJ_iconst (pc := 52) dX6_alike_52 (by decide) ?_
        refine jJ_zretx (pc := 53) dX6_alike_53 rfl (by decide) ⟨by decide, by decide⟩ ?_
        exact ⟨hc0, by simp [alkV, c49, jb], rfl, rfl⟩
theorem c_alike {tx : Nat} {x : Nat → Nat} {q : Nat → Nat → Nat} {t u : Int} (hl : (eX E).stackTraces = false) (h0 : jK E 6 h) (hT : TsL E P h tx x q) (hI : ∀ t, t < 12 → I (x t) 8 ≠ 0 → TxI I (x t) (q t)) (hd : 7 ≤ d) :
    jCx E yX6_alike cX6_alike 6 (some .boolean) d 2 [jp h, ji t, ji u] I P (jDc (exT I x t ∧ exT I x u) (some (ji (jb (I (x t.toNat) 11 = I (x u.toNat) 11 ∧ alkV (tNm I (q t.toNat)) (tNm I (q u.toNat)) (I (x t.toNat) 11).toNat 0 = true)))) I P) (jXx (¬ (exT I x t ∧ exT I x u)) jNSE I P) := by
  have hT0 := hT
  obtain ⟨p2, atx, hTs⟩ := hT
  refine jCx_intro (by decide +kernel) (by simp [jc, va_rf, Value.category]) (Nat.le_of_ble_eq_true rfl) ?_
  refine jJ_aload_n (pc := 0) dX6_alike_0 rfl ?_
  refine jJ_iload_n (pc := 1) dX6_alike_1 rfl ?_
  refine jJ_callVx (pc := 2) (as := [_]) dX6_alike_2 mX6_124 (jRcv_of (by assumption) rfl rfl) (Nat.le_of_ble_eq_true rfl) (jRmx_ok (by omega) (by decide) (by decide) (by decide)) (c_existing (x := x) (d := d - 1) hl h0 p2 atx (fun t ht => ⟨(hTs t ht).1, (hTs t ht).2.1⟩) (by omega)) ⟨by decide, by decide⟩ ?_ ?_
  · rintro Ec I' P' ⟨hx, rfl, rfl, rfl⟩
    exact ⟨fun z => hx z.1, rfl, rfl, rfl⟩
  · rintro r I' P' ⟨hx, rfl, rfl, rfl⟩
    refine jJ_astore_n (pc := 5) (ls' := [_, _, _, _, _, _]) dX6_alike_5 (Nat.le_of_ble_eq_true rfl) rfl ?_
    refine jJ_aload_n (pc := 6) dX6_alike_6 rfl ?_
    refine jJ_iload_n (pc := 7) dX6_alike_7 rfl ?_
    refine jJ_callVx (pc := 8) (as := [_]) dX6_alike_8 mX6_124 (jRcv_of (by assumption) rfl rfl) (Nat.le_of_ble_eq_true rfl) (jRmx_ok (by omega) (by decide) (by decide) (by decide)) (c_existing (x := x) (d := d - 1) hl h0 p2 atx (fun t ht => ⟨(hTs t ht).1, (hTs t ht).2.1⟩) (by omega)) ⟨by decide, by decide⟩ ?_ ?_
    · rintro Ec I'' P'' ⟨hy, rfl, rfl, rfl⟩
      exact ⟨fun z => hy z.2, rfl, rfl, rfl⟩
    · rintro r I'' P'' ⟨hy, rfl, rfl, rfl⟩
      have ht : t.toNat < 12 := by have := hx.1; have := hx.2.1; omega
      have hu : u.toNat < 12 := by have := hy.1; have := hy.2.1; omega
      have hx5 := (hTs t.toNat ht).2
      have hy5 := (hTs u.toNat hu).2
      have kx := hx5.1
      have ky := hy5.1
      have hG := hI t.toNat ht hx.2.2
      have hG2 := hI u.toNat hu hy.2.2
      refine jJ_astore (pc := 11) (ls' := [_, _, _, _, _, _]) dX6_alike_11 (Nat.le_of_ble_eq_true rfl) rfl ?_
      refine jJ_aload_n (pc := 13) dX6_alike_13 rfl ?_
      refine jJ_geti (pc := 14) dX6_alike_14 fX6_128 rfl kx ?_
      refine jJ_aload (pc := 17) dX6_alike_17 rfl ?_
      refine jJ_geti (pc := 19) dX6_alike_19 fX6_128 rfl ky ?_
      refine jJ_icmp_eq (pc := 22) (tgt := 27) dX6_alike_22 (by decide) (fun c22 => ?_) (fun c22 => ?_)
      · refine jJ_iconst (pc := 27) dX6_alike_27 (by decide) ?_
        refine jJ_istore (pc := 28) (ls' := [_, _, _, _, _, _]) dX6_alike_28 (Nat.le_of_ble_eq_true rfl) rfl ?_
        have e1 : I'' (x t.toNat) 11 = (((I'' (x t.toNat) 11).toNat : Nat) : Int) := by have := hG.1; omega
        have h2 := hG2.2
        rw [← c22] at h2
        have k := alike_loop (h := h) (t := t) (u := u) (c0 := exT I'' x t ∧ exT I'' x u) (X := jXx (¬ (exT I'' x t ∧ exT I'' x u)) jNSE I'' P'') hx5 hy5 ⟨hx, hy⟩ e1 (by have := hG.1; omega) hG.2 h2 hd (I'' (x t.toNat) 11).toNat 0 (by omega)
        simp only [c22, true_and] at k ⊢
        exact k
      · refine jJ_iconst (pc := 25) dX6_alike_25 (by decide) ?_
        refine jJ_zretx (pc := 26) dX6_alike_26 rfl (by decide) ⟨by decide, by decide⟩ ?_
        exact ⟨⟨hx, hy⟩, by rw [← jb_f (fun z => c22 z.1)], rfl, rfl⟩
/-- the memory behind take() -/
theorem c_take {tx sp rd op o r : Nat} {x : Nat → Nat} {qs : Nat → Nat} {t : Int} {w : List Int × Int} (hl : (eX E).stackTraces = false) (h0 : jK E 6 h) (p2 : P h 2 = some tx) (atx : jAr E 13 tx 12) (hts : ∀ t, t < 12 → P tx t = some (x t) ∧ jK E 5 (x t)) (p3 : P h 3 = some sp) (p4 : P h 4 = some rd) (hr : RdL E P rd op) (hx : TxL E P sp qs) (hq : TxD qs) (hqo : ∀ j, j ≤ 7 → qs j ≠ op) (p12 : P h 12 = some o) (ho : jK E 2 o) (hor : P o 0 = some r) (hra : jAr E 8 r 2000) (hw : outM I o r w = I) (hb : ∀ i : Nat, i < 800 → -128 ≤ I r i ∧ I r i ≤ 127) (hd : 10 ≤ d) :
    jCx E yX6_take cX6_take 3 (some .boolean) d 1 [jp h, ji t] I P (jDc (exT I x t) (some (ji (jb ((I h 13 = t ∧ w.1.length ≠ 0 ∧ w.1.length ≤ 800) ∧ (rpR I sp rd op r qs w.1.length (I (x t.toNat) 10)).1 = 0)))) (if I h 13 = t ∧ w.1.length ≠ 0 ∧ w.1.length ≤ 800 then rpM I h sp rd op r qs w.1.length (I (x t.toNat) 10) t else I) (if I h 13 = t ∧ w.1.length ≠ 0 ∧ w.1.length ≤ 800 then rpP I P h sp rd op r tx (x t.toNat) qs w.1.length (I (x t.toNat) 10) t.toNat else P)) (jXx (¬ exT I x t) jNSE I P) := by
  have hlen : I o 1 = (w.1.length : Int) := by rw [← hw, outM_1]
  refine jCx_intro (by decide +kernel) (by simp [jc, va_rf, Value.category]) (Nat.le_of_ble_eq_true rfl) ?_
  refine jJ_aload_n (pc := 0) dX6_take_0 rfl ?_
  refine jJ_iload_n (pc := 1) dX6_take_1 rfl ?_
  refine jJ_callVx (pc := 2) (as := [_]) dX6_take_2 mX6_124 (jRcv_of (by assumption) rfl rfl) (Nat.le_of_ble_eq_true rfl) (jRmx_ok (by omega) (by decide) (by decide) (by decide)) (c_existing (x := x) (d := d - 1) hl h0 p2 atx hts (by omega)) ⟨by decide, by decide⟩ ?_ ?_
  · rintro Ec I' P' ⟨hnx, rfl, rfl, rfl⟩
    exact ⟨hnx, rfl, rfl, rfl⟩
  · rintro rr I' P' ⟨hxx, rfl, rfl, rfl⟩
    have ht : t.toNat < 12 := by have := hxx.1; have := hxx.2.1; omega
    obtain ⟨pt, kt⟩ := hts t.toNat ht
    refine jJ_astore_n (pc := 5) (ls' := [_, _, _]) dX6_take_5 (Nat.le_of_ble_eq_true rfl) rfl ?_
    refine jJ_aload_n (pc := 6) dX6_take_6 rfl ?_
    refine jJ_geti (pc := 7) dX6_take_7 fX6_60 rfl (by assumption) ?_
    refine jJ_iload_n (pc := 10) dX6_take_10 rfl ?_
    refine jJ_icmp_ne (pc := 11) (tgt := 37) dX6_take_11 (by decide) (fun c11 => ?_) (fun c11 => ?_)
    · refine jJ_iconst (pc := 37) dX6_take_37 (by decide) ?_
      refine jJ_zretx (pc := 38) dX6_take_38 rfl (by decide) ⟨by decide, by decide⟩ ?_
      exact ⟨hxx, by rw [← jb_f (fun z => c11 z.1.1)], by rw [if_neg (fun z => c11 z.1)], by rw [if_neg (fun z => c11 z.1)]⟩
    · refine jJ_aload_n (pc := 14) dX6_take_14 rfl ?_
      refine jJ_getr (pc := 15) dX6_take_15 fX6_56 rfl (by assumption) p12 ?_
      refine jJ_geti (pc := 18) dX6_take_18 fX6_220 rfl (by assumption) ?_
      rw [hlen]
      refine jJ_if_eq (pc := 21) (tgt := 37) dX6_take_21 (by decide) (fun c21 => ?_) (fun c21 => ?_)
      · refine jJ_iconst (pc := 37) dX6_take_37 (by decide) ?_
        refine jJ_zretx (pc := 38) dX6_take_38 rfl (by decide) ⟨by decide, by decide⟩ ?_
        exact ⟨hxx, by rw [← jb_f (fun z => by have := z.1.2.1; omega)], by rw [if_neg (fun z => by have := z.2.1; omega)], by rw [if_neg (fun z => by have := z.2.1; omega)]⟩
      · refine jJ_aload_n (pc := 24) dX6_take_24 rfl ?_
        refine jJ_getr (pc := 25) dX6_take_25 fX6_56 rfl (by assumption) p12 ?_
        refine jJ_geti (pc := 28) dX6_take_28 fX6_220 rfl (by assumption) ?_
        rw [hlen]
        refine jJ_sipush (pc := 31) dX6_take_31 (by decide) ?_
        refine jJ_icmp_le (pc := 34) (tgt := 39) dX6_take_34 (by decide) (fun c34 => ?_) (fun c34 => ?_)
        · have hc : I' h 13 = t ∧ w.1.length ≠ 0 ∧ w.1.length ≤ 800 := ⟨c11, by omega, by omega⟩
          have k := c_replaceText (I := I') (P := P') (d := d - 1) (t := t.toNat) (n := (w.1.length : Int)) (hand := I' (x t.toNat) 10) (s := r) (ns := 2000) h0 p2 atx p3 p4 hr hx hq hqo ht pt kt hra (by decide) hb (by omega) (by omega)
          rw [show ((t.toNat : Nat) : Int) = t by have := hxx.1; omega] at k
          refine jJ_aload_n (pc := 39) dX6_take_39 rfl ?_
          refine jJ_iload_n (pc := 40) dX6_take_40 rfl ?_
          refine jJ_aload_n (pc := 41) dX6_take_41 rfl ?_
          refine jJ_geti (pc := 42) dX6_take_42 fX6_134 rfl (by assumption) ?_
          refine jJ_aload_n (pc := 45) dX6_take_45 rfl ?_
          refine jJ_getr (pc := 46) dX6_take_46 fX6_56 rfl (by assumption) (by first | exact p12 | exact hor) ?_
          refine jJ_getr (pc := 49) dX6_take_49 fX6_244 rfl (by assumption) (by first | exact p12 | exact hor) ?_
          refine jJ_aload_n (pc := 52) dX6_take_52 rfl ?_
          refine jJ_getr (pc := 53) dX6_take_53 fX6_56 rfl (by assumption) (by first | exact p12 | exact hor) ?_
          refine jJ_geti (pc := 56) dX6_take_56 fX6_220 rfl (by assumption) ?_
          rw [hlen]
          refine jJ_callVd (pc := 59) (as := [_, _, _, _]) dX6_take_59 mX6_93 (jRcv_of (by assumption) rfl rfl) (Nat.le_of_ble_eq_true rfl) (jRmx_ok (by omega) (by decide) (by decide) (by decide)) (k) ?_
          rw [if_pos hc, if_pos hc]
          refine jJ_if_ne (pc := 62) (tgt := 69) dX6_take_62 (by decide) (fun c62 => ?_) (fun c62 => ?_)
          · refine jJ_iconst (pc := 69) dX6_take_69 (by decide) ?_
            refine jJ_zretx (pc := 70) dX6_take_70 rfl (by decide) ⟨by decide, by decide⟩ ?_
            exact ⟨hxx, by rw [← jb_f (fun z => c62 z.2)], rfl, rfl⟩
          · refine jJ_iconst (pc := 65) dX6_take_65 (by decide) ?_
            refine jJ_goto (pc := 66) (tgt := 70) dX6_take_66 (by decide) ?_
            refine jJ_zretx (pc := 70) dX6_take_70 rfl (by decide) ⟨by decide, by decide⟩ ?_
            exact ⟨hxx, by rw [← jb_t ⟨hc, c62⟩], rfl, rfl⟩
        · refine jJ_iconst (pc := 37) dX6_take_37 (by decide) ?_
          refine jJ_zretx (pc := 38) dX6_take_38 rfl (by decide) ⟨by decide, by decide⟩ ?_
          exact ⟨hxx, by rw [← jb_f (fun z => by have := z.1.2.2; omega)], by rw [if_neg (fun z => by have := z.2.2; omega)], by rw [if_neg (fun z => by have := z.2.2; omega)]⟩
end JPub2
