section JTake2
variable {E : jE} {I : jI} {P : jP} {d : Nat} {h : Nat}
theorem c_Text_start2 {x s ns : Nat} {q : Nat → Nat} {n hand : Int} (hx : TxL E P x q) (hs : jAr E 8 s ns) (hns : 800 ≤ ns ∧ ns ≤ 5000) (hb : ∀ i : Nat, (i : Int) < n → i < 800 → -128 ≤ I s i ∧ I s i ≤ 127) (hd : 2 ≤ d) : jC E yX5_start cX5_start 4 none d [jp x, jp s, ji n, ji hand] I P (jD none (staM I x (q 0) s n hand) P) := by
  obtain ⟨h0, ⟨p0, p1, p2, p3, p4, p5, p6, p7⟩, ⟨a0, a1, a2, a3, a4, a5, a6, a7⟩⟩ := hx
  have nx : x ≠ q 0 := jne h0.2 a0.2.1 (by decide)
  have ns' : x ≠ s := jne h0.2 hs.2.1 (by decide)
  refine jC_intro (by decide +kernel) (by simp [jc, va_rf, Value.category]) (Nat.le_of_ble_eq_true rfl) ?_
  refine jJ_aload_n (pc := 0) dX5_start_0 rfl ?_
  refine jJ_iconst (pc := 1) dX5_start_1 (by decide) ?_
  refine jJ_iload_n (pc := 2) dX5_start_2 rfl ?_
  refine jJ_aload_n (pc := 3) dX5_start_3 rfl ?_
  refine jJ_alen (pc := 4) (t0 := 0) dX5_start_4 hs rfl (by decide) (by decide) ⟨by omega, by omega⟩ ?_
  refine jJ_aload_n (pc := 5) dX5_start_5 rfl ?_
  refine jJ_getr (pc := 6) dX5_start_6 fX5_9 rfl (by assumption) (by assumption) ?_
  refine jJ_alen (pc := 9) (t0 := 0) dX5_start_9 a0 rfl (by decide) (by decide) (by decide) ?_
  refine jJ_min (pc := 10) dX5_start_10 mX5_37 nX5_37 (Nat.le_of_ble_eq_true rfl) (jRm_1 (by omega)) ?_
  rw [show min (ns : Int) ((800 : Nat) : Int) = 800 by omega]
  refine jJ_min (pc := 13) dX5_start_13 mX5_37 nX5_37 (Nat.le_of_ble_eq_true rfl) (jRm_1 (by omega)) ?_
  refine jJ_max (pc := 16) dX5_start_16 mX5_43 nX5_43 (Nat.le_of_ble_eq_true rfl) (jRm_1 (by omega)) ?_
  refine jJ_puti (pc := 19) dX5_start_19 fX5_46w rfl ⟨rfl, rfl⟩ (by assumption) ?_
  refine jJ_aload_n (pc := 22) dX5_start_22 rfl ?_
  refine jJ_iconst (pc := 23) dX5_start_23 (by decide) ?_
  refine jJ_aload_n (pc := 24) dX5_start_24 rfl ?_
  refine jJ_getr (pc := 25) dX5_start_25 fX5_9 rfl (by assumption) (by assumption) ?_
  refine jJ_iconst (pc := 28) dX5_start_28 (by decide) ?_
  refine jJ_aload_n (pc := 29) dX5_start_29 rfl ?_
  refine jJ_geti (pc := 30) dX5_start_30 fX5_46 rfl (by assumption) ?_
  rw [jput_s]
  refine jJ_copyb (pc := 33) dX5_start_33 acp_1 hs a0 ⟨by omega, by omega, by omega, by omega, by omega⟩ (fun i hi => by rw [jput_a _ ns'.symm]; simpa using hb i (by omega) (by omega)) (Nat.le_of_ble_eq_true rfl) (jRm_cp hd) ?_
  refine jJ_aload_n (pc := 36) dX5_start_36 rfl ?_
  refine jJ_iload_n (pc := 37) dX5_start_37 rfl ?_
  refine jJ_puti (pc := 38) dX5_start_38 fX5_56w rfl ⟨rfl, rfl⟩ (by assumption) ?_
  refine jJ_aload_n (pc := 41) dX5_start_41 rfl ?_
  refine jJ_iconst (pc := 42) dX5_start_42 (by decide) ?_
  refine jJ_puti (pc := 43) dX5_start_43 fX5_59w rfl ⟨rfl, rfl⟩ (by assumption) ?_
  refine jJ_vret (pc := 46) dX5_start_46 rfl ?_
  exact ⟨rfl, rfl, rfl⟩
theorem c_replaceText2 {tx sp rd op s ns xt t : Nat} {qs : Nat → Nat} {n hand : Int} (h0 : jK E 6 h) (p2 : P h 2 = some tx) (atx : jAr E 13 tx 12) (p3 : P h 3 = some sp) (p4 : P h 4 = some rd) (hr : RdL E P rd op) (hx : TxL E P sp qs) (hq : TxD qs) (hqo : ∀ j, j ≤ 7 → qs j ≠ op) (ht : t < 12) (pt : P tx t = some xt) (kx : jK E 5 xt) (hs : jAr E 8 s ns) (hns : 800 ≤ ns ∧ ns ≤ 5000) (hb : ∀ i : Nat, (i : Int) < n → i < 800 → -128 ≤ I s i ∧ I s i ≤ 127) (hn : 0 ≤ n ∧ n ≤ 800) (hd : 9 ≤ d) :
    jC E yX6_replaceText cX6_replaceText 7 (some .int) d [jp h, ji (t : Int), ji hand, jp s, ji n] I P (jD (some (ji (rpR I sp rd op s qs n hand).1)) (rpM I h sp rd op s qs n hand t) (rpP I P h sp rd op s tx xt qs n hand t)) := by
  have hxq := hx.xq
  have g0 := hx.1
  have n1 : sp ≠ rd := jne g0.2 hr.1.2 (by decide)
  have n2 : sp ≠ op := jne g0.2 hr.2.2.2.1 (by decide)
  have hqr : ∀ j, j ≤ 7 → qs j ≠ rd := fun j hj => by
    rcases hx.kq j hj with z | z
    · exact jne z hr.1.2 (by decide)
    · exact jne z hr.1.2 (by decide)
  have hht : h ≠ tx := jne h0.2 atx.2.1 (by decide)
  have ht0 : rdS0 (staM I sp (qs 0) s n hand rd) 5 = 0 := rfl
  have htok := rdGo_tok (f := staM I sp (qs 0) s n hand (qs 0)) (n := n.toNat) (by omega) 201 0 (rdS0 (staM I sp (qs 0) s n hand rd)) (staM I sp (qs 0) s n hand op) [] (by omega) rfl (by unfold RdI rdS0; simp [su]) (by rw [ht0]; decide) (fun t ht => by simp at ht)
  rw [if_pos (by decide)] at htok
  obtain ⟨htk, hlen⟩ := htok
  refine jC_intro (by decide +kernel) (by simp [jc, va_rf, Value.category]) (Nat.le_of_ble_eq_true rfl) ?_
  refine jJ_aload_n (pc := 0) dX6_replaceText_0 rfl ?_
  refine jJ_getr (pc := 1) dX6_replaceText_1 fX6_20 rfl (by assumption) p3 ?_
  refine jJ_aload_n (pc := 4) dX6_replaceText_4 rfl ?_
  refine jJ_iload (pc := 5) dX6_replaceText_5 rfl ?_
  refine jJ_iload_n (pc := 7) dX6_replaceText_7 rfl ?_
  refine jJ_callVd (pc := 8) (as := [_, _, _]) dX6_replaceText_8 mX6_103 (jRcv_of (by assumption) rfl rfl) (Nat.le_of_ble_eq_true rfl) (jRm_ok (by omega) (by decide)) (c_Text_start2 (d := d - 1) hx hs hns hb (by omega)) ?_
  refine jJ_aload_n (pc := 11) dX6_replaceText_11 rfl ?_
  refine jJ_getr (pc := 12) dX6_replaceText_12 fX6_27 rfl (by assumption) (by first | exact p4 | exact p3) ?_
  refine jJ_aload_n (pc := 15) dX6_replaceText_15 rfl ?_
  refine jJ_getr (pc := 16) dX6_replaceText_16 fX6_20 rfl (by assumption) (by first | exact p4 | exact p3) ?_
  refine jJ_callVd (pc := 19) (as := [_]) dX6_replaceText_19 mX6_107 (jRcv_of hr.1 rfl rfl) (Nat.le_of_ble_eq_true rfl) (jRm_ok (by omega) (by decide)) (c_Rd_read (d := d - 1) (n := n.toNat) hr hx hq hqo (by rw [staM_9 (hxq 0 (by decide))]; omega) (by omega) staM_11 (by omega)) ?_
  show jJ E yX6_replaceText.cls cX6_replaceText 7 (some .int) (jRm d) _ 0 0 22 _ [ji (rpR I sp rd op s qs n hand).1] (rpM2 I sp rd op s qs n hand) P
  refine jJ_istore (pc := 22) (ls' := [_, _, _, _, _, _, _]) dX6_replaceText_22 (Nat.le_of_ble_eq_true rfl) rfl ?_
  refine jJ_iload (pc := 24) dX6_replaceText_24 rfl ?_
  refine jJ_if_ne (pc := 26) (tgt := 75) dX6_replaceText_26 (by decide) (fun c26 => ?_) (fun c26 => ?_)
  · refine jJ_iload (pc := 75) dX6_replaceText_75 rfl ?_
    refine jJ_iret (pc := 77) dX6_replaceText_77 rfl ?_
    exact ⟨rfl, by rw [rpM, if_pos c26], by rw [rpP, if_pos c26]⟩
  · refine jJ_aload_n (pc := 29) dX6_replaceText_29 rfl ?_
    refine jJ_getr (pc := 30) dX6_replaceText_30 fX6_20 rfl (by assumption) p3 ?_
    have e9 : rpM2 I sp rd op s qs n hand sp 9 ≤ 800 := by
      unfold rpM2
      rw [rdRM_xk (by decide) n1 n2, tkM_f hxq (by decide), staM_9 (hxq 0 (by decide))]
      omega
    have e11 : rpM2 I sp rd op s qs n hand sp 11 = ((rpR I sp rd op s qs n hand).2.2.2.1.length : Int) := by
      unfold rpM2
      rw [rdRM_xk (by decide) n1 n2, tkM_n]
    refine jJ_callVd (pc := 33) (as := []) dX6_replaceText_33 mX6_111 (jRcv_of (by assumption) rfl rfl) (Nat.le_of_ble_eq_true rfl) (jRm_ok (by omega) (by decide)) (c_Text_seeGaps (d := d - 1) hx hq e9 e11 hlen (rdRM_TokR hxq hq hqr hqo htk) (by omega)) ?_
    have pt' : P tx ((t : Int)).toNat = some xt := by rw [Int.toNat_natCast]; exact pt
    refine jJ_aload_n (pc := 36) dX6_replaceText_36 rfl ?_
    refine jJ_getr (pc := 37) dX6_replaceText_37 fX6_15 rfl (by assumption) (by first | exact p2 | exact pt') ?_
    refine jJ_iload_n (pc := 40) dX6_replaceText_40 rfl ?_
    refine jJ_aald (pc := 41) (t0 := 5) dX6_replaceText_41 atx rfl (by decide) ⟨by omega, by omega⟩ (by first | exact p2 | exact pt') ?_
    refine jJ_astore (pc := 42) (ls' := [_, _, _, _, _, _, _]) dX6_replaceText_42 (Nat.le_of_ble_eq_true rfl) rfl ?_
    refine jJ_aload_n (pc := 44) dX6_replaceText_44 rfl ?_
    refine jJ_getr (pc := 45) dX6_replaceText_45 fX6_15 rfl (by assumption) (by first | exact p2 | exact p3) ?_
    refine jJ_iload_n (pc := 48) dX6_replaceText_48 rfl ?_
    refine jJ_aload_n (pc := 49) dX6_replaceText_49 rfl ?_
    refine jJ_getr (pc := 50) dX6_replaceText_50 fX6_20 rfl (by assumption) (by first | exact p2 | exact p3) ?_
    refine jJ_aast (pc := 53) (ci := 5) (t0 := 5) dX6_replaceText_53 atx rfl rfl (by decide) ⟨by omega, by omega⟩ g0 ?_
    rw [Int.toNat_natCast]
    have q2 : jputP P tx t (some sp) h 2 = some tx := by simp [jputP, hht, p2]
    have qt : jputP P tx t (some sp) tx ((t : Int)).toNat = some sp := by simp [jputP]
    refine jJ_aload_n (pc := 54) dX6_replaceText_54 rfl ?_
    refine jJ_getr (pc := 55) dX6_replaceText_55 fX6_15 rfl (by assumption) (by first | exact q2 | exact qt) ?_
    refine jJ_iload_n (pc := 58) dX6_replaceText_58 rfl ?_
    refine jJ_aald (pc := 59) (t0 := 5) dX6_replaceText_59 atx rfl (by decide) ⟨by omega, by omega⟩ (by first | exact q2 | exact qt) ?_
    refine jJ_iconst (pc := 60) dX6_replaceText_60 (by decide) ?_
    refine jJ_puti (pc := 61) dX6_replaceText_61 fX6_114w rfl ⟨by decide, by decide⟩ g0 ?_
    refine jJ_aload_n (pc := 64) dX6_replaceText_64 rfl ?_
    refine jJ_aload (pc := 65) dX6_replaceText_65 rfl ?_
    refine jJ_putr (pc := 67) dX6_replaceText_67 fX6_20w rfl ⟨rfl, rfl⟩ (by assumption) ?_
    refine jJ_aload_n (pc := 70) dX6_replaceText_70 rfl ?_
    refine jJ_iload_n (pc := 71) dX6_replaceText_71 rfl ?_
    refine jJ_callVd (pc := 72) (as := [_]) dX6_replaceText_72 mX6_118 (jRcv_of (by assumption) rfl rfl) (Nat.le_of_ble_eq_true rfl) (jRm_ok (by omega) (by decide)) (c_forgetOutOf (d := d - 1) h0) ?_
    refine jJ_iload (pc := 75) dX6_replaceText_75 rfl ?_
    refine jJ_iret (pc := 77) dX6_replaceText_77 rfl ?_
    exact ⟨rfl, (rpM_ok c26).symm, by rw [rpP, if_neg (by simp [c26])]⟩
theorem c_take2 {tx sp rd op o r : Nat} {x : Nat → Nat} {qs : Nat → Nat} {t : Int} {w : List Int × Int} (hl : (eX E).stackTraces = false) (h0 : jK E 6 h) (p2 : P h 2 = some tx) (atx : jAr E 13 tx 12) (hts : ∀ t, t < 12 → P tx t = some (x t) ∧ jK E 5 (x t)) (p3 : P h 3 = some sp) (p4 : P h 4 = some rd) (hr : RdL E P rd op) (hx : TxL E P sp qs) (hq : TxD qs) (hqo : ∀ j, j ≤ 7 → qs j ≠ op) (p12 : P h 12 = some o) (ho : jK E 2 o) (hor : P o 0 = some r) (hra : jAr E 8 r 2000) (hw : outM I o r w = I) (hb : ∀ i : Nat, i < w.1.length → -128 ≤ I r i ∧ I r i ≤ 127) (hd : 10 ≤ d) :
    jCx E yX6_take cX6_take 3 (some .boolean) d 1 [jp h, ji t] I P (jDc (exT I x t) (some (ji (jb ((I h 13 = t ∧ w.1.length ≠ 0 ∧ w.1.length ≤ 800) ∧ (rpR I sp rd op r qs w.1.length (I (x t.toNat) 10)).1 = 0)))) (if I h 13 = t ∧ w.1.length ≠ 0 ∧ w.1.length ≤ 800 then rpM I h sp rd op r qs w.1.length (I (x t.toNat) 10) t else I) (if I h 13 = t ∧ w.1.length ≠ 0 ∧ w.1.length ≤ 800 then rpP I P h sp rd op r tx (x t.toNat) qs w.1.length (I (x t.toNat) 10) t.toNat else P)) (jXx (¬ exT I x t) jNSE I P) := by
  have hlen : I o 1 = (w.1.length : Int) := by rw [← hw, outM_1]
  refine jCx_intro (by decide +kernel) (by simp [jc, va_rf, Value.category]) (Nat.le_of_ble_eq_true rfl) ?_
  refine jJ_aload_n (pc := 0) dX6_take_0 rfl ?_
  refine jJ_iload_n (pc := 1) dX6_take_1 rfl ?_
  refine jJ_callVx (pc := 2) (as := [_]) dX6_take_2 mX6_124 (jRcv_of (by assumption) rfl rfl) (Nat.le_of_ble_eq_true rfl) (jRmx_ok (by omega) (by decide) (by decide) (by decide)) (c_existing (x := x) (d := d - 1) hl h0 p2 atx hts (by omega)) ⟨by decide, by decide⟩ ?_ ?_
  · rintro Ec I' P' ⟨hnx, rfl, rfl, rfl⟩
    exact ⟨hnx, rfl, rfl, rfl⟩
  · rintro rr I' P' ⟨hxx, rfl, rfl, rfl⟩
    have ht : t.toNat < 12 := by have := hxx.1; have := hxx.2.1; omega
    obtain ⟨pt, kt⟩ := hts t.toNat ht
    refine jJ_astore_n (pc := 5) (ls' := [_, _, _]) dX6_take_5 (Nat.le_of_ble_eq_true rfl) rfl ?_
    refine jJ_aload_n (pc := 6) dX6_take_6 rfl ?_
    refine jJ_geti (pc := 7) dX6_take_7 fX6_60 rfl (by assumption) ?_
    refine jJ_iload_n (pc := 10) dX6_take_10 rfl ?_
    refine jJ_icmp_ne (pc := 11) (tgt := 37) dX6_take_11 (by decide) (fun c11 => ?_) (fun c11 => ?_)
    · refine jJ_iconst (pc := 37) dX6_take_37 (by decide) ?_
      refine jJ_zretx (pc := 38) dX6_take_38 rfl (by decide) ⟨by decide, by decide⟩ ?_
      exact ⟨hxx, by rw [← jb_f (fun z => c11 z.1.1)], by rw [if_neg (fun z => c11 z.1)], by rw [if_neg (fun z => c11 z.1)]⟩
    · refine jJ_aload_n (pc := 14) dX6_take_14 rfl ?_
      refine jJ_getr (pc := 15) dX6_take_15 fX6_56 rfl (by assumption) p12 ?_
      refine jJ_geti (pc := 18) dX6_take_18 fX6_220 rfl (by assumption) ?_
      rw [hlen]
      refine jJ_if_eq (pc := 21) (tgt := 37) dX6_take_21 (by decide) (fun c21 => ?_) (fun c21 => ?_)
      · refine jJ_iconst (pc := 37) dX6_take_37 (by decide) ?_
        refine jJ_zretx (pc := 38) dX6_take_38 rfl (by decide) ⟨by decide, by decide⟩ ?_
        exact ⟨hxx, by rw [← jb_f (fun z => by have := z.1.2.1; omega)], by rw [if_neg (fun z => by have := z.2.1; omega)], by rw [if_neg (fun z => by have := z.2.1; omega)]⟩
      · refine jJ_aload_n (pc := 24) dX6_take_24 rfl ?_
        refine jJ_getr (pc := 25) dX6_take_25 fX6_56 rfl (by assumption) p12 ?_
        refine jJ_geti (pc := 28) dX6_take_28 fX6_220 rfl (by assumption) ?_
        rw [hlen]
        refine jJ_sipush (pc := 31) dX6_take_31 (by decide) ?_
        refine jJ_icmp_le (pc := 34) (tgt := 39) dX6_take_34 (by decide) (fun c34 => ?_) (fun c34 => ?_)
        · have hc : I' h 13 = t ∧ w.1.length ≠ 0 ∧ w.1.length ≤ 800 := ⟨c11, by omega, by omega⟩
          have k := c_replaceText2 (I := I') (P := P') (d := d - 1) (t := t.toNat) (n := (w.1.length : Int)) (hand := I' (x t.toNat) 10) (s := r) (ns := 2000) h0 p2 atx p3 p4 hr hx hq hqo ht pt kt hra (by decide) (fun i h1 _ => hb i (by omega)) (by omega) (by omega)
          rw [show ((t.toNat : Nat) : Int) = t by have := hxx.1; omega] at k
          refine jJ_aload_n (pc := 39) dX6_take_39 rfl ?_
          refine jJ_iload_n (pc := 40) dX6_take_40 rfl ?_
          refine jJ_aload_n (pc := 41) dX6_take_41 rfl ?_
          refine jJ_geti (pc := 42) dX6_take_42 fX6_134 rfl (by assumption) ?_
          refine jJ_aload_n (pc := 45) dX6_take_45 rfl ?_
          refine jJ_getr (pc := 46) dX6_take_46 fX6_56 rfl (by assumption) (by first | exact p12 | exact hor) ?_
          refine jJ_getr (pc := 49) dX6_take_49 fX6_244 rfl (by assumption) (by first | exact p12 | exact hor) ?_
          refine jJ_aload_n (pc := 52) dX6_take_52 rfl ?_
          refine jJ_getr (pc := 53) dX6_take_53 fX6_56 rfl (by assumption) (by first | exact p12 | exact hor) ?_
          refine jJ_geti (pc := 56) dX6_take_56 fX6_220 rfl (by assumption) ?_
          rw [hlen]
          refine jJ_callVd (pc := 59) (as := [_, _, _, _]) dX6_take_59 mX6_93 (jRcv_of (by assumption) rfl rfl) (Nat.le_of_ble_eq_true rfl) (jRmx_ok (by omega) (by decide) (by decide) (by decide)) (k) ?_
          rw [if_pos hc, if_pos hc]
          refine jJ_if_ne (pc := 62) (tgt := 69) dX6_take_62 (by decide) (fun c62 => ?_) (fun c62 => ?_)
          · refine jJ_iconst (pc := 69) dX6_take_69 (by decide) ?_
            refine jJ_zretx (pc := 70) dX6_take_70 rfl (by decide) ⟨by decide, by decide⟩ ?_
            exact ⟨hxx, by rw [← jb_f (fun z => c62 z.2)], rfl, rfl⟩
          · refine jJ_iconst (pc := 65) dX6_take_65 (by decide) ?_
            refine jJ_goto (pc := 66) (tgt := 70) dX6_take_66 (by decide) ?_
            refine jJ_zretx (pc := 70) dX6_take_70 rfl (by decide) ⟨by decide, by decide⟩ ?_
            exact ⟨hxx, by rw [← jb_t ⟨hc, c62⟩], rfl, rfl⟩
        · refine jJ_iconst (pc := 37) dX6_take_37 (by decide) ?_
          refine jJ_zretx (pc := 38) dX6_take_38 rfl (by decide) ⟨by decide, by decide⟩ ?_
          exact ⟨hxx, by rw [← jb_f (fun z => by have := z.1.2.2; omega)], by rw [if_neg (fun z => by have := z.2.2; omega)], by rw [if_neg (fun z => by have := z.2.2; omega)]⟩
end JTake2
