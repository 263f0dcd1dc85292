section JHouse2
variable {E : jE} {I : jI} {P : jP} {d : Nat} {h : Nat}
/-- how the TEXTS lie -/
def TsL (E : jE) (P : jP) (h tx : Nat) (x : Nat → Nat) (q : Nat → Nat → Nat) : Prop := P h 2 = some tx ∧ jAr E 13 tx 12 ∧ ∀ t, t < 12 → P tx t = some (x t) ∧ TxL E P (x t) (q t)
/-- what is kept of a TEXT that is there -/
def TxI (I : jI) (x : Nat) (q : Nat → Nat) : Prop := (0 ≤ I x 11 ∧ I x 11 ≤ 200) ∧ TokR2 I q (I x 11).toNat
def hsM (I : jI) (x : Nat → Nat) (q : Nat → Nat → Nat) (mk : Int) : Nat → Nat → Int
  | _, 0 => 0
  | t, k + 1 => (if I (x t) 8 ≠ 0 then cntMd (tNm I (q t)) (I (q t 3)) mk 0 (I (x t) 11).toNat else 0) + hsM I x q mk (t + 1) k
theorem hsM_no {I : jI} {x : Nat → Nat} {q : Nat → Nat → Nat} {mk : Int} {t k : Nat} (h : I (x t) 8 = 0) : hsM I x q mk t (k + 1) = hsM I x q mk (t + 1) k := by rw [hsM, if_neg (by simp [h]), Int.zero_add]
theorem hsM_yes {I : jI} {x : Nat → Nat} {q : Nat → Nat → Nat} {mk : Int} {t k : Nat} (h : I (x t) 8 ≠ 0) : hsM I x q mk t (k + 1) = cntMd (tNm I (q t)) (I (q t 3)) mk 0 (I (x t) 11).toNat + hsM I x q mk (t + 1) k := by rw [hsM, if_pos h]
theorem house_loop {m rm tx : Nat} {x : Nat → Nat} {q : Nat → Nat → Nat} (h0 : jK E 6 h) (hm : MkL E P h m rm) (hT : TsL E P h tx x q) (hrm : ∀ t, t < 12 → q t 0 ≠ rm) (hI : ∀ t, t < 12 → I (x t) 8 ≠ 0 → TxI I (x t) (q t)) (hd : 4 ≤ d) :
    ∀ (k t : Nat) (a b : Int) (J : jI), t + k = 12 → (0 ≤ a ∧ a ≤ 200 * t) → (0 ≤ b ∧ b ≤ 200 * t) → fr [m, rm] I J → jJ E yX6_house.cls cX6_house 4 (some .int) (jRm d) (jZ E (fun r I' P' => r = some (ji (if a + hsM I x q 0 t k = b + hsM I x q 1 t k then -1 else if b + hsM I x q 1 t k < a + hsM I x q 0 t k then 0 else 1)) ∧ P' = P ∧ fr [m, rm] I I')) 0 0 6 [some (jp h), some (ji a), some (ji b), some (ji (t : Int))] [] J P := by
  have hm0 := hm
  obtain ⟨pm, km, prm, arm⟩ := hm
  obtain ⟨p2, atx, hTs⟩ := hT
  intro k
  induction k with
  | zero =>
    intro t a b J ht ha hb hf
    refine jJ_iload_n (pc := 6) dX6_house_6 rfl ?_
    refine jJ_bipush (pc := 7) dX6_house_7 (by decide) ?_
    refine jJ_icmp_ge (pc := 9) (tgt := 58) dX6_house_9 (by decide) (fun c9 => ?_) (fun c9 => ?_)
    · refine jJ_iload_n (pc := 58) dX6_house_58 rfl ?_
      refine jJ_iload_n (pc := 59) dX6_house_59 rfl ?_
      refine jJ_icmp_ne (pc := 60) (tgt := 65) dX6_house_60 (by decide) (fun c60 => ?_) (fun c60 => ?_)
      · refine jJ_iload_n (pc := 65) dX6_house_65 rfl ?_
        refine jJ_iload_n (pc := 66) dX6_house_66 rfl ?_
        refine jJ_icmp_le (pc := 67) (tgt := 74) dX6_house_67 (by decide) (fun c67 => ?_) (fun c67 => ?_)
        · refine jJ_iconst (pc := 74) dX6_house_74 (by decide) ?_
          refine jJ_iret (pc := 75) dX6_house_75 rfl ?_
          exact ⟨by simp only [hsM, Int.add_zero]; (repeat' split) <;> first | rfl | (exfalso; omega), rfl, hf⟩
        · refine jJ_iconst (pc := 70) dX6_house_70 (by decide) ?_
          refine jJ_goto (pc := 71) (tgt := 75) dX6_house_71 (by decide) ?_
          refine jJ_iret (pc := 75) dX6_house_75 rfl ?_
          exact ⟨by simp only [hsM, Int.add_zero]; (repeat' split) <;> first | rfl | (exfalso; omega), rfl, hf⟩
      · refine jJ_iconst (pc := 63) dX6_house_63 (by decide) ?_
        refine jJ_iret (pc := 64) dX6_house_64 rfl ?_
        exact ⟨by simp only [hsM, Int.add_zero]; (repeat' split) <;> first | rfl | (exfalso; omega), rfl, hf⟩
    · exfalso
      omega
  | succ k ih =>
    intro t a b J ht ha hb hf
    obtain ⟨pt, hx⟩ := hTs t (by omega)
    have hx0 := hx
    obtain ⟨g0, ⟨p0, p1, p2', p3, p4, p5, p6, p7⟩, ⟨a0, a1, a2, a3, a4, a5, a6, a7⟩⟩ := hx
    have nx : x t ∉ [m, rm] := by simp [jne g0.2 km.2 (by decide : (5 : Nat) ≠ 1), jne g0.2 arm.2.1 (by decide : (5 : Nat) ≠ 8)]
    have n0 : q t 0 ∉ [m, rm] := by simp [jne a0.2.1 km.2 (by decide : (8 : Nat) ≠ 1), hrm t (by omega)]
    have n1 : q t 1 ∉ [m, rm] := by simp [jne a1.2.1 km.2 (by decide : (9 : Nat) ≠ 1), jne a1.2.1 arm.2.1 (by decide : (9 : Nat) ≠ 8)]
    have n2 : q t 2 ∉ [m, rm] := by simp [jne a2.2.1 km.2 (by decide : (9 : Nat) ≠ 1), jne a2.2.1 arm.2.1 (by decide : (9 : Nat) ≠ 8)]
    have n3 : q t 3 ∉ [m, rm] := by simp [jne a3.2.1 km.2 (by decide : (9 : Nat) ≠ 1), jne a3.2.1 arm.2.1 (by decide : (9 : Nat) ≠ 8)]
    have ptn : P tx ((t : Int)).toNat = some (x t) := by rw [Int.toNat_natCast]; exact pt
    refine jJ_iload_n (pc := 6) dX6_house_6 rfl ?_
    refine jJ_bipush (pc := 7) dX6_house_7 (by decide) ?_
    refine jJ_icmp_ge (pc := 9) (tgt := 58) dX6_house_9 (by decide) (fun c9 => ?_) (fun c9 => ?_)
    · exfalso
      omega
    · refine jJ_aload_n (pc := 12) dX6_house_12 rfl ?_
      refine jJ_getr (pc := 13) dX6_house_13 fX6_15 rfl (by assumption) (by first | exact p2 | exact ptn) ?_
      refine jJ_iload_n (pc := 16) dX6_house_16 rfl ?_
      refine jJ_aald (pc := 17) (t0 := 5) dX6_house_17 atx rfl (by decide) ⟨by omega, by omega⟩ (by first | exact p2 | exact ptn) ?_
      refine jJ_geti (pc := 18) dX6_house_18 fX6_114 rfl (by assumption) ?_
      rw [hf _ nx]
      refine jJ_if_eq (pc := 21) (tgt := 52) dX6_house_21 (by decide) (fun c21 => ?_) (fun c21 => ?_)
      · refine jJ_iinc (pc := 52) (ls' := [_, _, _, _]) dX6_house_52 rfl ⟨by omega, by omega⟩ rfl ?_
        refine jJ_goto (pc := 55) (tgt := 6) dX6_house_55 (by decide) ?_
        rw [hsM_no c21, hsM_no c21]
        exact ih (t + 1) a b J (by omega) (by omega) (by omega) hf
      · obtain ⟨hc, hT2⟩ := hI t (by omega) c21
        have cc : ∀ (K : jI) (mk : Int), fr [m, rm] I K → jC E yX6_countMade cX6_countMade 7 (some .int) (d - 1) [jp h, jp (x t), ji mk] K P (fun r I' P' => r = some (ji (cntMd (tNm I (q t)) (I (q t 3)) mk 0 (I (x t) 11).toNat)) ∧ P' = P ∧ fr [m, rm] K I') := by
          intro K mk hK
          have k := c_countMade (d := d - 1) (I := K) (P := P) (mk := mk) (n := (I (x t) 11).toNat) h0 hm0 hx0 (hrm t (by omega)) (by rw [hK _ nx]; omega) (by omega) (by unfold TokR2; rw [hK _ n1, hK _ n2]; exact hT2) (by omega)
          rw [hK _ n3, show tNm K (q t) = tNm I (q t) from funext (fun i => tNm_fr hK n0 n1 n2 i)] at k
          exact k
        have r0 := cntMd_r (tNm I (q t)) (I (q t 3)) 0 (I (x t) 11).toNat 0
        have r1 := cntMd_r (tNm I (q t)) (I (q t 3)) 1 (I (x t) 11).toNat 0
        refine jJ_iload_n (pc := 24) dX6_house_24 rfl ?_
        refine jJ_aload_n (pc := 25) dX6_house_25 rfl ?_
        refine jJ_aload_n (pc := 26) dX6_house_26 rfl ?_
        refine jJ_getr (pc := 27) dX6_house_27 fX6_15 rfl (by assumption) (by first | exact p2 | exact ptn) ?_
        refine jJ_iload_n (pc := 30) dX6_house_30 rfl ?_
        refine jJ_aald (pc := 31) (t0 := 5) dX6_house_31 atx rfl (by decide) ⟨by omega, by omega⟩ (by first | exact p2 | exact ptn) ?_
        refine jJ_iconst (pc := 32) dX6_house_32 (by decide) ?_
        refine jJ_callV (pc := 33) (as := [_, _]) dX6_house_33 mX6_255 (jRcv_of h0 rfl rfl) (Nat.le_of_ble_eq_true rfl) (jRm_ok (by omega) (by decide)) (cc J 0 hf) (fun r I1 P1 hq => ?_)
        obtain ⟨rfl, rfl, hf1⟩ := hq
        have hf1' := fr_tr hf hf1
        refine jJ_iadd (pc := 36) dX6_house_36 ⟨by omega, by omega⟩ ?_
        refine jJ_istore_n (pc := 37) (ls' := [_, _, _, _]) dX6_house_37 (Nat.le_of_ble_eq_true rfl) rfl ?_
        refine jJ_iload_n (pc := 38) dX6_house_38 rfl ?_
        refine jJ_aload_n (pc := 39) dX6_house_39 rfl ?_
        refine jJ_aload_n (pc := 40) dX6_house_40 rfl ?_
        refine jJ_getr (pc := 41) dX6_house_41 fX6_15 rfl (by assumption) (by first | exact p2 | exact ptn) ?_
        refine jJ_iload_n (pc := 44) dX6_house_44 rfl ?_
        refine jJ_aald (pc := 45) (t0 := 5) dX6_house_45 atx rfl (by decide) ⟨by omega, by omega⟩ (by first | exact p2 | exact ptn) ?_
        refine jJ_iconst (pc := 46) dX6_house_46 (by decide) ?_
        refine jJ_callV (pc := 47) (as := [_, _]) dX6_house_47 mX6_255 (jRcv_of h0 rfl rfl) (Nat.le_of_ble_eq_true rfl) (jRm_ok (by omega) (by decide)) (cc I1 1 hf1') (fun r I2 P2 hq => ?_)
        obtain ⟨rfl, rfl, hf2⟩ := hq
        refine jJ_iadd (pc := 50) dX6_house_50 ⟨by omega, by omega⟩ ?_
        refine jJ_istore_n (pc := 51) (ls' := [_, _, _, _]) dX6_house_51 (Nat.le_of_ble_eq_true rfl) rfl ?_
        refine jJ_iinc (pc := 52) (ls' := [_, _, _, _]) dX6_house_52 rfl ⟨by omega, by omega⟩ rfl ?_
        refine jJ_goto (pc := 55) (tgt := 6) dX6_house_55 (by decide) ?_
        rw [hsM_yes c21, hsM_yes c21, ← Int.add_assoc, ← Int.add_assoc]
        exact ih (t + 1) _ _ I2 (by omega) (by omega) (by omega) (fr_tr hf1' hf2)
theorem c_house {m rm tx : Nat} {x : Nat → Nat} {q : Nat → Nat → Nat} (h0 : jK E 6 h) (hm : MkL E P h m rm) (hT : TsL E P h tx x q) (hrm : ∀ t, t < 12 → q t 0 ≠ rm) (hI : ∀ t, t < 12 → I (x t) 8 ≠ 0 → TxI I (x t) (q t)) (hd : 4 ≤ d) :
    jC E yX6_house cX6_house 4 (some .int) d [jp h] I P (fun r I' P' => r = some (ji (if hsM I x q 0 0 12 = hsM I x q 1 0 12 then -1 else if hsM I x q 1 0 12 < hsM I x q 0 0 12 then 0 else 1)) ∧ P' = P ∧ fr [m, rm] I I') := by
  refine jC_intro (by decide +kernel) (by simp [jc, va_rf, Value.category]) (Nat.le_of_ble_eq_true rfl) ?_
  refine jJ_iconst (pc := 0) dX6_house_0 (by decide) ?_
  refine jJ_istore_n (pc := 1) (ls' := [_, _, _, _]) dX6_house_1 (Nat.le_of_ble_eq_true rfl) rfl ?_
  refine jJ_iconst (pc := 2) dX6_house_2 (by decide) ?_
  refine jJ_istore_n (pc := 3) (ls' := [_, _, _, _]) dX6_house_3 (Nat.le_of_ble_eq_true rfl) rfl ?_
  refine jJ_iconst (pc := 4) dX6_house_4 (by decide) ?_
  refine jJ_istore_n (pc := 5) (ls' := [_, _, _, _]) dX6_house_5 (Nat.le_of_ble_eq_true rfl) rfl ?_
  have k := house_loop h0 hm hT hrm hI hd 12 0 0 0 I (by omega) (by omega) (by omega) fr_rf
  simp only [Int.zero_add] at k
  exact k
/-! tallying: the texts' gaps are counted -/
/-- how the tallies lie -/
def TaL (E : jE) (P : jP) (h tl : Nat) (t : Nat → Nat) (u : Nat → Nat → Nat) : Prop := P h 9 = some tl ∧ jAr E 12 tl 16 ∧ ∀ k, k < 16 → P tl k = some (t k) ∧ TlL E P (t k) (u k)
/-- the addresses of the tallies' rows are apart -/
def TaD (u : Nat → Nat → Nat) : Prop := ∀ k l i j, k < 16 → l < 16 → i < 2 → j < 2 → u k i = u l j → k = l ∧ i = j
/-- the k gaps from g on are counted -/
def tgM (J : jI) (kd tst ch : Nat → Int) (u : Nat → Nat → Nat) : Nat → Nat → jI
  | _, 0 => J
  | g, k + 1 => tgM (cntM J (u (kd g).toNat) (kd g) (tst g) (ch g) 3) kd tst ch u (g + 1) k
def taS (u : Nat → Nat → Nat) (a : Nat) : Prop := ∃ k i, k < 16 ∧ i < 2 ∧ a = u k i
/-- the tallies' counts are at most B -/
def taB (I : jI) (u : Nat → Nat → Nat) (B : Int) : Prop := ∀ k, k < 16 → (∀ j, j < 3 → 0 ≤ I (u k 0) j ∧ I (u k 0) j ≤ B) ∧ (∀ j, j < 300 → 0 ≤ I (u k 1) j ∧ I (u k 1) j ≤ B)
theorem cntM_taB {I : jI} {u : Nat → Nat → Nat} {B : Int} {l : Nat} {kd bits ch : Int} (hu : TaD u) (hl : l < 16) (h : taB I u B) : taB (cntM I (u l) kd bits ch 3) u (B + 3) := by
  intro k hk
  by_cases hkl : k = l
  · subst hkl
    have hne : u k 0 ≠ u k 1 := fun z => by have := hu k k 0 1 hk hk (by decide) (by decide) z; omega
    obtain ⟨g0, g1⟩ := cntM_r (kd := kd) (bits := bits) (ch := ch) hne (h k hk).1 (h k hk).2 3 (by decide)
    exact ⟨fun j hj => by have := g0 j hj; omega, fun j hj => by have := g1 j hj; omega⟩
  · have e0 : ∀ j, cntM I (u l) kd bits ch 3 (u k 0) j = I (u k 0) j := fun j => cntM_x (fun z => hkl (hu k l 0 0 hk hl (by decide) (by decide) z).1) (fun z => hkl (hu k l 0 1 hk hl (by decide) (by decide) z).1) 3 j
    have e1 : ∀ j, cntM I (u l) kd bits ch 3 (u k 1) j = I (u k 1) j := fun j => cntM_x (fun z => hkl (hu k l 1 0 hk hl (by decide) (by decide) z).1) (fun z => hkl (hu k l 1 1 hk hl (by decide) (by decide) z).1) 3 j
    obtain ⟨g0, g1⟩ := h k hk
    exact ⟨fun j hj => by rw [e0]; have := g0 j hj; omega, fun j hj => by rw [e1]; have := g1 j hj; omega⟩
theorem tallyText_loop {x tl n : Nat} {q : Nat → Nat} {t : Nat → Nat} {u : Nat → Nat → Nat} (h0 : jK E 6 h) (hTa : TaL E P h tl t u) (hu : TaD u) (hx : TxL E P x q) (hqu : ∀ i, i ≤ 7 → ¬ taS u (q i)) (hn2 : n ≤ 199)
    (hk : ∀ g, g < n → 0 ≤ I (q 6) g ∧ I (q 6) g ≤ 15) (ho : ∀ g, g < n → 0 ≤ I (q 5) g ∧ I (q 5) g ≤ 3) (hh : 0 ≤ I x 10 ∧ I x 10 ≤ 3) (hd : 2 ≤ d) :
    ∀ (k g : Nat) (z : Option jV) (J : jI) (B : Int), g + k = n → (∀ a, ¬ taS u a → J a = I a) → taB J u B → B + 3 * k ≤ 80000 →
      jJ E yX6_tallyText.cls cX6_tallyText 5 none (jRm d) (jZ E (jD none (tgM J (I (q 6)) (fun g => tstV (I (q 5) g) (I x 10) (I (q 4) (g + 1))) (I (q 7)) u g k) P)) 0 0 7 [some (jp h), some (jp x), some (ji (n : Int)), some (ji (g : Int)), z] [] J P := by
  have hx0 := hx
  obtain ⟨g0, ⟨p0, p1, p2, p3, p4, p5, p6, p7⟩, ⟨a0, a1, a2, a3, a4, a5, a6, a7⟩⟩ := hx
  obtain ⟨p9, atl, hTs⟩ := hTa
  have nx : ¬ taS u x := by
    rintro ⟨k, i, hk, hi, e⟩
    have h2 := (hTs k hk).2
    rcases (show i = 0 ∨ i = 1 by omega) with rfl | rfl
    · exact jne g0.2 h2.2.2.2.1.2.1 (by decide) e
    · exact jne g0.2 h2.2.2.2.2.1.2.1 (by decide) e
  intro k
  induction k with
  | zero =>
    intro g z J B hg hJ hB hBk
    refine jJ_iload_n (pc := 7) dX6_tallyText_7 rfl ?_
    refine jJ_iload_n (pc := 8) dX6_tallyText_8 rfl ?_
    refine jJ_icmp_ge (pc := 9) (tgt := 49) dX6_tallyText_9 (by decide) (fun c9 => ?_) (fun c9 => ?_)
    · refine jJ_vret (pc := 49) dX6_tallyText_49 rfl ?_
      exact ⟨rfl, rfl, rfl⟩
    · exfalso
      omega
  | succ k ih =>
    intro g z J B hg hJ hB hBk
    have hkg := hk g (by omega)
    have hog := ho g (by omega)
    obtain ⟨ptk, htk⟩ := hTs (I (q 6) g).toNat (by omega)
    refine jJ_iload_n (pc := 7) dX6_tallyText_7 rfl ?_
    refine jJ_iload_n (pc := 8) dX6_tallyText_8 rfl ?_
    refine jJ_icmp_ge (pc := 9) (tgt := 49) dX6_tallyText_9 (by decide) (fun c9 => ?_) (fun c9 => ?_)
    · exfalso
      omega
    · refine jJ_aload_n (pc := 12) dX6_tallyText_12 rfl ?_
      refine jJ_getr (pc := 13) dX6_tallyText_13 fX6_144 rfl (by assumption) (by assumption) ?_
      refine jJ_iload_n (pc := 16) dX6_tallyText_16 rfl ?_
      refine jJ_iald (pc := 17) dX6_tallyText_17 a6 ⟨by omega, by omega⟩ ?_
      rw [Int.toNat_natCast, hJ _ (hqu 6 (by decide))]
      refine jJ_istore (pc := 18) (ls' := [_, _, _, _, _]) dX6_tallyText_18 (Nat.le_of_ble_eq_true rfl) rfl ?_
      refine jJ_aload_n (pc := 20) dX6_tallyText_20 rfl ?_
      refine jJ_getr (pc := 21) dX6_tallyText_21 fX6_43 rfl (by assumption) (by first | exact p9 | exact ptk) ?_
      refine jJ_iload (pc := 24) dX6_tallyText_24 rfl ?_
      refine jJ_aald (pc := 26) (t0 := 4) dX6_tallyText_26 atl rfl (by decide) ⟨by omega, by omega⟩ (by first | exact p9 | exact ptk) ?_
      refine jJ_iload (pc := 27) dX6_tallyText_27 rfl ?_
      refine jJ_aload_n (pc := 29) dX6_tallyText_29 rfl ?_
      refine jJ_iload_n (pc := 30) dX6_tallyText_30 rfl ?_
      refine jJ_callVd (pc := 31) (as := [_]) dX6_tallyText_31 mX6_153 (jRcv_of (by assumption) rfl rfl) (Nat.le_of_ble_eq_true rfl) (jRm_ok (by omega) (by decide)) (c_Text_testsAt (d := d - 1) hx0 (by omega) (by rw [hJ _ (hqu 5 (by decide))]; exact hog) (by rw [hJ _ nx]; exact hh)) ?_
      rw [hJ _ (hqu 5 (by decide)), hJ _ nx, hJ _ (hqu 4 (by decide))]
      refine jJ_aload_n (pc := 34) dX6_tallyText_34 rfl ?_
      refine jJ_getr (pc := 35) dX6_tallyText_35 fX6_147 rfl (by assumption) (by first | exact p7) ?_
      refine jJ_iload_n (pc := 38) dX6_tallyText_38 rfl ?_
      refine jJ_iald (pc := 39) dX6_tallyText_39 a7 ⟨by omega, by omega⟩ ?_
      rw [Int.toNat_natCast, hJ _ (hqu 7 (by decide))]
      have hb2 := hB (I (q 6) g).toNat (by omega)
      refine jJ_callVd (pc := 40) (as := [_, _, _]) dX6_tallyText_40 mX6_181 (jRcv_of htk.1 rfl rfl) (Nat.le_of_ble_eq_true rfl) (jRm_ok (by omega) (by decide)) (c_Tally_count (d := d - 1) htk (fun k hk => by have := hb2.1 k hk; omega) (fun k hk => by have := hb2.2 k hk; omega) (by omega)) ?_
      refine jJ_iinc (pc := 43) (ls' := [_, _, _, _, _]) dX6_tallyText_43 rfl ⟨by omega, by omega⟩ rfl ?_
      refine jJ_goto (pc := 46) (tgt := 7) dX6_tallyText_46 (by decide) ?_
      refine ih (g + 1) _ _ (B + 3) (by omega) (fun a ha => ?_) (cntM_taB hu (by omega) hB) (by omega)
      rw [← hJ a ha]
      funext j
      exact cntM_x (fun z => ha ⟨_, 0, by omega, by decide, z⟩) (fun z => ha ⟨_, 1, by omega, by decide, z⟩) 3 j
theorem c_tallyText {x tl : Nat} {q : Nat → Nat} {t : Nat → Nat} {u : Nat → Nat → Nat} {J : jI} {B : Int} (h0 : jK E 6 h) (hTa : TaL E P h tl t u) (hu : TaD u) (hx : TxL E P x q) (hqu : ∀ i, i ≤ 7 → ¬ taS u (q i)) (hxu : J x = I x) (hn2 : I x 11 ≤ 200)
    (hk : ∀ g, g < gapsN (I x 11) → 0 ≤ I (q 6) g ∧ I (q 6) g ≤ 15) (ho : ∀ g, g < gapsN (I x 11) → 0 ≤ I (q 5) g ∧ I (q 5) g ≤ 3) (hh : 0 ≤ I x 10 ∧ I x 10 ≤ 3) (hJ : ∀ a, ¬ taS u a → J a = I a) (hB : taB J u B) (hBk : B + 600 ≤ 80000) (hd : 2 ≤ d) :
    jC E yX6_tallyText cX6_tallyText 5 none d [jp h, jp x] J P (jD none (tgM J (I (q 6)) (fun g => tstV (I (q 5) g) (I x 10) (I (q 4) (g + 1))) (I (q 7)) u 0 (gapsN (I x 11))) P) := by
  have hx1 := hx.1
  refine jC_intro (by decide +kernel) (by simp [jc, va_rf, Value.category]) (Nat.le_of_ble_eq_true rfl) ?_
  refine jJ_aload_n (pc := 0) dX6_tallyText_0 rfl ?_
  refine jJ_callVd (pc := 1) (as := []) dX6_tallyText_1 mX6_140 (jRcv_of (by assumption) rfl rfl) (Nat.le_of_ble_eq_true rfl) (jRm_ok (by omega) (by decide)) (c_Text_gapCount (d := d - 1) hx) ?_
  rw [hxu, gapsN_eq]
  refine jJ_istore_n (pc := 4) (ls' := [_, _, _, _, _]) dX6_tallyText_4 (Nat.le_of_ble_eq_true rfl) rfl ?_
  refine jJ_iconst (pc := 5) dX6_tallyText_5 (by decide) ?_
  refine jJ_istore_n (pc := 6) (ls' := [_, _, _, _, _]) dX6_tallyText_6 (Nat.le_of_ble_eq_true rfl) rfl ?_
  have hgn : gapsN (I x 11) ≤ 199 := by unfold gapsN; split <;> omega
  exact tallyText_loop h0 hTa hu hx hqu hgn hk ho hh hd (gapsN (I x 11)) 0 none J B (by omega) hJ hB (by omega)
end JHouse2
