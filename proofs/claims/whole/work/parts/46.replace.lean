section JRep
variable {E : jE} {I : jI} {P : jP} {d : Nat} {h : Nat}
theorem staM_9 {I : jI} {x b s : Nat} {n hand : Int} (hb : x ≠ b) : staM I x b s n hand x 9 = max 0 (min n 800) := by
  unfold staM
  rw [jput_k _ (by decide), jput_k _ (by decide)]
  simp [cpM, hb, jput]
theorem staM_11 {I : jI} {x b s : Nat} {n hand : Int} : staM I x b s n hand x 11 = 0 := by
  unfold staM
  rw [jput_s]
theorem staM_x {I : jI} {x b s : Nat} {n hand : Int} {a : Nat} (h1 : a ≠ x) (h2 : a ≠ b) (k : Nat) : staM I x b s n hand a k = I a k := by
  unfold staM
  rw [jput_a _ h1, jput_a _ h1]
  simp only [cpM, h2, false_and, if_false]
  exact jput_a _ h1
/-- the reading of n bytes of the row s, into the spare TEXT -/
def rpR (I : jI) (sp rd op s : Nat) (qs : Nat → Nat) (n hand : Int) : RdRes := rdGo (staM I sp (qs 0) s n hand (qs 0)) n.toNat 201 (rdS0 (staM I sp (qs 0) s n hand rd)) (staM I sp (qs 0) s n hand op) []
def rpM2 (I : jI) (sp rd op s : Nat) (qs : Nat → Nat) (n hand : Int) : jI := rdRM (staM I sp (qs 0) s n hand) sp qs rd op (rpR I sp rd op s qs n hand)
def rpM4 (I : jI) (sp rd op s : Nat) (qs : Nat → Nat) (n hand : Int) : jI := jput (gapM (rpM2 I sp rd op s qs n hand) sp qs ((rpR I sp rd op s qs n hand).2.2.2.1.length - 1)) sp 8 1
def rpM (I : jI) (h sp rd op s : Nat) (qs : Nat → Nat) (n hand t : Int) : jI := if (rpR I sp rd op s qs n hand).1 ≠ 0 then rpM2 I sp rd op s qs n hand else if rpM4 I sp rd op s qs n hand h 13 = t then jput (rpM4 I sp rd op s qs n hand) h 13 (-1) else rpM4 I sp rd op s qs n hand
def rpP (I : jI) (P : jP) (h sp rd op s tx xt : Nat) (qs : Nat → Nat) (n hand : Int) (t : Nat) : jP := if (rpR I sp rd op s qs n hand).1 ≠ 0 then P else jputP (jputP P tx t (some sp)) h 3 (some xt)
theorem rpM_ok {I : jI} {h sp rd op s : Nat} {qs : Nat → Nat} {n hand t : Int} (hf : (rpR I sp rd op s qs n hand).1 = 0) : rpM I h sp rd op s qs n hand t = if rpM4 I sp rd op s qs n hand h 13 = t then jput (rpM4 I sp rd op s qs n hand) h 13 (-1) else rpM4 I sp rd op s qs n hand := by rw [rpM, if_neg (by simp [hf])]
theorem c_replaceText {tx sp rd op s ns xt t : Nat} {qs : Nat → Nat} {n hand : Int} (h0 : jK E 6 h) (p2 : P h 2 = some tx) (atx : jAr E 13 tx 12) (p3 : P h 3 = some sp) (p4 : P h 4 = some rd) (hr : RdL E P rd op) (hx : TxL E P sp qs) (hq : TxD qs) (hqo : ∀ j, j ≤ 7 → qs j ≠ op) (ht : t < 12) (pt : P tx t = some xt) (kx : jK E 5 xt) (hs : jAr E 8 s ns) (hns : 800 ≤ ns ∧ ns ≤ 5000) (hb : ∀ i : Nat, i < 800 → -128 ≤ I s i ∧ I s i ≤ 127) (hn : 0 ≤ n ∧ n ≤ 800) (hd : 9 ≤ d) :
    jC E yX6_replaceText cX6_replaceText 7 (some .int) d [jp h, ji (t : Int), ji hand, jp s, ji n] I P (jD (some (ji (rpR I sp rd op s qs n hand).1)) (rpM I h sp rd op s qs n hand t) (rpP I P h sp rd op s tx xt qs n hand t)) := by
  have hxq := hx.xq
  have g0 := hx.1
  have n1 : sp ≠ rd := jne g0.2 hr.1.2 (by decide)
  have n2 : sp ≠ op := jne g0.2 hr.2.2.2.1 (by decide)
  have hqr : ∀ j, j ≤ 7 → qs j ≠ rd := fun j hj => by
    rcases hx.kq j hj with z | z
    · exact jne z hr.1.2 (by decide)
    · exact jne z hr.1.2 (by decide)
  have hht : h ≠ tx := jne h0.2 atx.2.1 (by decide)
  have ht0 : rdS0 (staM I sp (qs 0) s n hand rd) 5 = 0 := rfl
  have htok := rdGo_tok (f := staM I sp (qs 0) s n hand (qs 0)) (n := n.toNat) (by omega) 201 0 (rdS0 (staM I sp (qs 0) s n hand rd)) (staM I sp (qs 0) s n hand op) [] (by omega) rfl (by unfold RdI rdS0; simp [su]) (by rw [ht0]; decide) (fun t ht => by simp at ht)
  rw [if_pos (by decide)] at htok
  obtain ⟨htk, hlen⟩ := htok
  refine jC_intro (by decide +kernel) (by simp [jc, va_rf, Value.category]) (Nat.le_of_ble_eq_true rfl) ?_
  refine jJ_aload_n (pc := 0) dX6_replaceText_0 rfl ?_
  refine jJ_getr (pc := 1) dX6_replaceText_1 fX6_20 rfl (by assumption) p3 ?_
  refine jJ_aload_n (pc := 4) dX6_replaceText_4 rfl ?_
  refine jJ_iload (pc := 5) dX6_replaceText_5 rfl ?_
  refine jJ_iload_n (pc := 7) dX6_replaceText_7 rfl ?_
  refine jJ_callVd (pc := 8) (as := [_, _, _]) dX6_replaceText_8 mX6_103 (jRcv_of (by assumption) rfl rfl) (Nat.le_of_ble_eq_true rfl) (jRm_ok (by omega) (by decide)) (c_Text_start (d := d - 1) hx hs hns hb (by omega)) ?_
  refine jJ_aload_n (pc := 11) dX6_replaceText_11 rfl ?_
  refine jJ_getr (pc := 12) dX6_replaceText_12 fX6_27 rfl (by assumption) (by first | exact p4 | exact p3) ?_
  refine jJ_aload_n (pc := 15) dX6_replaceText_15 rfl ?_
  refine jJ_getr (pc := 16) dX6_replaceText_16 fX6_20 rfl (by assumption) (by first | exact p4 | exact p3) ?_
  refine jJ_callVd (pc := 19) (as := [_]) dX6_replaceText_19 mX6_107 (jRcv_of hr.1 rfl rfl) (Nat.le_of_ble_eq_true rfl) (jRm_ok (by omega) (by decide)) (c_Rd_read (d := d - 1) (n := n.toNat) hr hx hq hqo (by rw [staM_9 (hxq 0 (by decide))]; omega) (by omega) staM_11 (by omega)) ?_
  show jJ E yX6_replaceText.cls cX6_replaceText 7 (some .int) (jRm d) _ 0 0 22 _ [ji (rpR I sp rd op s qs n hand).1] (rpM2 I sp rd op s qs n hand) P
  refine jJ_istore (pc := 22) (ls' := [_, _, _, _, _, _, _]) dX6_replaceText_22 (Nat.le_of_ble_eq_true rfl) rfl ?_
  refine jJ_iload (pc := 24) dX6_replaceText_24 rfl ?_
  refine jJ_if_ne (pc := 26) (tgt := 75) dX6_replaceText_26 (by decide) (fun c26 => ?_) (fun c26 => ?_)
  · refine jJ_iload (pc := 75) dX6_replaceText_75 rfl ?_
    refine jJ_iret (pc := 77) dX6_replaceText_77 rfl ?_
    exact ⟨rfl, by rw [rpM, if_pos c26], by rw [rpP, if_pos c26]⟩
  · refine jJ_aload_n (pc := 29) dX6_replaceText_29 rfl ?_
    refine jJ_getr (pc := 30) dX6_replaceText_30 fX6_20 rfl (by assumption) p3 ?_
    have e9 : rpM2 I sp rd op s qs n hand sp 9 ≤ 800 := by
      unfold rpM2
      rw [rdRM_xk (by decide) n1 n2, tkM_f hxq (by decide), staM_9 (hxq 0 (by decide))]
      omega
    have e11 : rpM2 I sp rd op s qs n hand sp 11 = ((rpR I sp rd op s qs n hand).2.2.2.1.length : Int) := by
      unfold rpM2
      rw [rdRM_xk (by decide) n1 n2, tkM_n]
    refine jJ_callVd (pc := 33) (as := []) dX6_replaceText_33 mX6_111 (jRcv_of (by assumption) rfl rfl) (Nat.le_of_ble_eq_true rfl) (jRm_ok (by omega) (by decide)) (c_Text_seeGaps (d := d - 1) hx hq e9 e11 hlen (rdRM_TokR hxq hq hqr hqo htk) (by omega)) ?_
    have pt' : P tx ((t : Int)).toNat = some xt := by rw [Int.toNat_natCast]; exact pt
    refine jJ_aload_n (pc := 36) dX6_replaceText_36 rfl ?_
    refine jJ_getr (pc := 37) dX6_replaceText_37 fX6_15 rfl (by assumption) (by first | exact p2 | exact pt') ?_
    refine jJ_iload_n (pc := 40) dX6_replaceText_40 rfl ?_
    refine jJ_aald (pc := 41) (t0 := 5) dX6_replaceText_41 atx rfl (by decide) ⟨by omega, by omega⟩ (by first | exact p2 | exact pt') ?_
    refine jJ_astore (pc := 42) (ls' := [_, _, _, _, _, _, _]) dX6_replaceText_42 (Nat.le_of_ble_eq_true rfl) rfl ?_
    refine jJ_aload_n (pc := 44) dX6_replaceText_44 rfl ?_
    refine jJ_getr (pc := 45) dX6_replaceText_45 fX6_15 rfl (by assumption) (by first | exact p2 | exact p3) ?_
    refine jJ_iload_n (pc := 48) dX6_replaceText_48 rfl ?_
    refine jJ_aload_n (pc := 49) dX6_replaceText_49 rfl ?_
    refine jJ_getr (pc := 50) dX6_replaceText_50 fX6_20 rfl (by assumption) (by first | exact p2 | exact p3) ?_
    refine jJ_aast (pc := 53) (ci := 5) (t0 := 5) dX6_replaceText_53 atx rfl rfl (by decide) ⟨by omega, by omega⟩ g0 ?_
    rw [Int.toNat_natCast]
    have q2 : jputP P tx t (some sp) h 2 = some tx := by simp [jputP, hht, p2]
    have qt : jputP P tx t (some sp) tx ((t : Int)).toNat = some sp := by simp [jputP]
    refine jJ_aload_n (pc := 54) dX6_replaceText_54 rfl ?_
    refine jJ_getr (pc := 55) dX6_replaceText_55 fX6_15 rfl (by assumption) (by first | exact q2 | exact qt) ?_
    refine jJ_iload_n (pc := 58) dX6_replaceText_58 rfl ?_
    refine jJ_aald (pc := 59) (t0 := 5) dX6_replaceText_59 atx rfl (by decide) ⟨by omega, by omega⟩ (by first | exact q2 | exact qt) ?_
    refine jJ_iconst (pc := 60) dX6_replaceText_60 (by decide) ?_
    refine jJ_puti (pc := 61) dX6_replaceText_61 fX6_114w rfl ⟨by decide, by decide⟩ g0 ?_
    refine jJ_aload_n (pc := 64) dX6_replaceText_64 rfl ?_
    refine jJ_aload (pc := 65) dX6_replaceText_65 rfl ?_
    refine jJ_putr (pc := 67) dX6_replaceText_67 fX6_20w rfl ⟨rfl, rfl⟩ (by assumption) ?_
    refine jJ_aload_n (pc := 70) dX6_replaceText_70 rfl ?_
    refine jJ_iload_n (pc := 71) dX6_replaceText_71 rfl ?_
    refine jJ_callVd (pc := 72) (as := [_]) dX6_replaceText_72 mX6_118 (jRcv_of (by assumption) rfl rfl) (Nat.le_of_ble_eq_true rfl) (jRm_ok (by omega) (by decide)) (c_forgetOutOf (d := d - 1) h0) ?_
    refine jJ_iload (pc := 75) dX6_replaceText_75 rfl ?_
    refine jJ_iret (pc := 77) dX6_replaceText_77 rfl ?_
    exact ⟨rfl, (rpM_ok c26).symm, by rw [rpP, if_neg (by simp [c26])]⟩
end JRep
