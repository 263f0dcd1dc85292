section JTurn3
variable {E : jE} {I : jI} {P : jP} {d : Nat} {h : Nat}
/-- the k TOKENS from i on are turned: how far the bytes are copied, and OUT -/
def turW (f sg st en : Nat → Int) (nm : Nat → List Int) (mk : Int) : Nat → Nat → Int → List Int → Option (Int × List Int)
  | 0, _, dn, l => some (dn, l)
  | k + 1, i, dn, l => if sg i = 1 then (if okA mk (nm i) = true ∧ metB sg (fun j => (made mk (nm j)).1) nm i i 0 = false then turW f sg st en nm mk k (i + 1) (en i) (l ++ (rowF f dn.toNat (st i - dn).toNat).map jB ++ (made mk (nm i)).1) else none) else turW f sg st en nm mk k (i + 1) dn l
/-- OUT behind turn() -/
def turR (f sg st en : Nat → Int) (nm : Nat → List Int) (mk len : Int) (n : Nat) : Option (List Int) := (turW f sg st en nm mk n 0 0 []).bind (fun z => if (800 : Int) < ((z.2 ++ (rowF f z.1.toNat (len - z.1).toNat).map jB).length : Int) then none else some (z.2 ++ (rowF f z.1.toNat (len - z.1).toNat).map jB))
def turQ (I : jI) (h o r : Nat) (S : List Nat) (t : Int) (res : Option (List Int)) : Option jV → jI → Prop := fun v I' => v = some (ji (res.elim (-1) (fun l => (l.length : Int)))) ∧ fr (h :: S) I I' ∧ (∀ k, k ≠ 13 → I' h k = I h k) ∧ I' h 13 = res.elim (-1) (fun _ => t) ∧ outM I' o r (res.getD [], 0) = I'
theorem outM_nil {K : jI} {o r : Nat} (hne : o ≠ r) : outM (outM K o r ([], 0)) o r ([], 0) = outM K o r ([], 0) := outM_outM K _ _ hne (Nat.le_refl _)
theorem TnI_app {J J' : jI} {q : Nat → Nat} {ms me tk : Nat} {mk : Int} {l s : List Int} (h : TnI J q ms me mk l tk) (e3 : J' (q 3) = J (q 3)) (es : J' ms = J ms) (ee : J' me = J me) (en : tNm J' q = tNm J q) : TnI J' q ms me mk (l ++ s) tk := by
  intro j hj hj1
  rw [e3] at hj1
  obtain ⟨b1, b2, b3, b4⟩ := h j hj hj1
  rw [es, ee, en]
  refine ⟨b1, b2, by rw [List.length_append]; omega, ?_⟩
  rw [List.drop_append_of_le_length (by omega), List.take_append_of_le_length (by simp; omega)]
  exact b4
theorem turn_loop {x m rm o r ms me n : Nat} {q : Nat → Nat} {mk t : Int} {c0 : Prop} {X : String → jI → jP → Prop} (h0 : jK E 6 h) (hm : MkL E P h m rm) (hM : MdL E P h o r ms me) (hx : TxL E P x q) (hD : TnD q r rm ms me) (hc0 : c0) (hn : I x 11 = (n : Int)) (hn2 : n ≤ 200) (hR : TokR2 I q n) (hO : ∀ i j, i < j → j < n → I (q 2) i ≤ I (q 1) j) (hL : 0 ≤ I x 9 ∧ I x 9 ≤ 800) (hd : 7 ≤ d) :
    ∀ (k i : Nat) (dn : Int) (l : List Int) (J : jI), i + k = n → (0 ≤ dn ∧ dn ≤ 800) → (∀ j, i ≤ j → j < n → dn ≤ I (q 1) j) → (l.length : Int) ≤ 2 * dn → fr (h :: tnS m rm o r ms me) I J → (∀ k, k ≠ 13 → J h k = I h k) → J h 13 = -1 → outM J o r (l, 0) = J → TnI J q ms me mk l i → turW (I (q 0)) (I (q 3)) (I (q 1)) (I (q 2)) (tNm I q) mk k i dn l = turW (I (q 0)) (I (q 3)) (I (q 1)) (I (q 2)) (tNm I q) mk n 0 0 [] →
      jJ E yX6_turn.cls cX6_turn 6 (some .int) (jRmx d 2) (jZx E (fun v I' P' => c0 ∧ P' = P ∧ turQ I h o r (tnS m rm o r ms me) t (turR (I (q 0)) (I (q 3)) (I (q 1)) (I (q 2)) (tNm I q) mk (I x 9) n) v I') X 2) 1 6 33 [some (jp h), some (ji t), some (ji mk), some (jp x), some (ji dn), some (ji (i : Int))] [] J P := by
  have hx0 := hx
  have hM0 := hM
  have hm0 := hm
  have hD0 := hD
  obtain ⟨g0, ⟨p0, p1, p2, p3, p4, p5, p6, p7⟩, ⟨a0, a1, a2, a3, a4, a5, a6, a7⟩⟩ := hx
  obtain ⟨pm, km, prm, arm⟩ := hm
  obtain ⟨p12, ho, hor, hra, p15, ams, p16, ame⟩ := hM
  obtain ⟨dr, dm, dq⟩ := hD
  have hor' : o ≠ r := jne ho.2 hra.2.1 (by decide)
  have hho : h ≠ o := jne h0.2 ho.2 (by decide)
  have hhr : h ≠ r := jne h0.2 hra.2.1 (by decide)
  have hhS : h ∉ tnS m rm o r ms me := by simp [tnS, hho, hhr, jne h0.2 km.2 (by decide : (6 : Nat) ≠ 1), jne h0.2 arm.2.1 (by decide : (6 : Nat) ≠ 8), jne h0.2 ams.2.1 (by decide : (6 : Nat) ≠ 9), jne h0.2 ame.2.1 (by decide : (6 : Nat) ≠ 9)]
  have qS : ∀ j, j ≤ 7 → q j ∉ h :: tnS m rm o r ms me := fun j hj => by
    obtain ⟨z1, z2, z3, z4⟩ := dq j hj
    have z5 : q j ≠ m := by
      rcases hx0.kq j hj with z | z
      · exact jne z km.2 (by decide)
      · exact jne z km.2 (by decide)
    have z6 : q j ≠ o := by
      rcases hx0.kq j hj with z | z
      · exact jne z ho.2 (by decide)
      · exact jne z ho.2 (by decide)
    have z7 : q j ≠ h := by
      rcases hx0.kq j hj with z | z
      · exact jne z h0.2 (by decide)
      · exact jne z h0.2 (by decide)
    simp [tnS, z1, z2, z3, z4, z5, z6, z7]
  have xS : x ∉ h :: tnS m rm o r ms me := by
    simp [tnS, jne g0.2 h0.2 (by decide : (5 : Nat) ≠ 6), jne g0.2 km.2 (by decide : (5 : Nat) ≠ 1), jne g0.2 arm.2.1 (by decide : (5 : Nat) ≠ 8), jne g0.2 ho.2 (by decide : (5 : Nat) ≠ 2), jne g0.2 hra.2.1 (by decide : (5 : Nat) ≠ 8), jne g0.2 ams.2.1 (by decide : (5 : Nat) ≠ 9), jne g0.2 ame.2.1 (by decide : (5 : Nat) ≠ 9)]
  have q0o : q 0 ≠ o := fun z => qS 0 (by decide) (by simp [tnS, z])
  have frS : ∀ {A B : jI}, fr (tnS m rm o r ms me) A B → fr (h :: tnS m rm o r ms me) A B := fun hf => fr_sub hf (fun a ha => List.mem_cons_of_mem _ ha)
  have fro : ∀ {A : jI} {w : List Int × Int}, fr (h :: tnS m rm o r ms me) A (outM A o r w) := fr_sub fr_out (fun a ha => by simp only [List.mem_cons, List.not_mem_nil, or_false] at ha; rcases ha with rfl | rfl <;> simp [tnS])
  intro k
  induction k with
  | zero =>
    intro i dn l J hi hdn hst hll hf hh h13 hw hT he
    refine jJ_iload (pc := 33) dX6_turn_33 rfl ?_
    refine jJ_aload_n (pc := 35) dX6_turn_35 rfl ?_
    refine jJ_geti (pc := 36) dX6_turn_36 fX6_128 rfl g0 ?_
    rw [hf x xS, hn]
    refine jJ_icmp_ge (pc := 39) (tgt := 105) dX6_turn_39 (by decide) (fun c39 => ?_) (fun c39 => ?_)
    · refine jJ_aload_n (pc := 105) dX6_turn_105 rfl ?_
      refine jJ_getr (pc := 106) dX6_turn_106 fX6_56 rfl (by assumption) (by first | exact p12 | exact p0) ?_
      refine jJ_aload_n (pc := 109) dX6_turn_109 rfl ?_
      refine jJ_getr (pc := 110) dX6_turn_110 fX6_201 rfl (by assumption) (by first | exact p12 | exact p0) ?_
      refine jJ_iload (pc := 113) dX6_turn_113 rfl ?_
      refine jJ_aload_n (pc := 115) dX6_turn_115 rfl ?_
      refine jJ_geti (pc := 116) dX6_turn_116 fX6_131 rfl (by assumption) ?_
      rw [hf x xS]
      refine jJ_I hw.symm ?_
      refine jJ_callVd (pc := 119) (as := [_, _, _]) dX6_turn_119 mX6_210 (jRcv_of (by assumption) rfl rfl) (Nat.le_of_ble_eq_true rfl) (jRmx_ok (by omega) (by decide) (by decide) (by decide)) (c_Out_putAll (d := d - 1) ho hor hra hor' a0 q0o (dq 0 (by decide)).1 (by decide) (by omega) (by simp; omega) (by omega)) ?_
      rw [hf _ (qS 0 (by decide)), show min (I x 9) ((800 : Nat) : Int) - ((dn.toNat : Nat) : Int) = I x 9 - dn by omega, oall_fit _ _ _ (by rw [rowF_len]; omega)]
      refine jJ_aload_n (pc := 122) dX6_turn_122 rfl ?_
      refine jJ_iload_n (pc := 123) dX6_turn_123 rfl ?_
      refine jJ_sipush (pc := 124) dX6_turn_124 (by decide) ?_
      refine jJ_callVd (pc := 127) (as := [_, _]) dX6_turn_127 mX6_213 (jRcv_of (by assumption) rfl rfl) (Nat.le_of_ble_eq_true rfl) (jRmx_ok (by omega) (by decide) (by decide) (by decide)) (c_endOut (r := r) (d := d - 1) h0 p12 ho (by omega)) ?_
      refine jJ_iretx (pc := 130) dX6_turn_130 rfl ⟨by decide, by decide⟩ ?_
      refine ⟨hc0, rfl, ?_⟩
      rw [turR, ← he, turW, Option.bind_some]
      have fj : ∀ {w : List Int × Int}, ∀ k, k ≠ 13 → outM J o r w h k = I h k := fun k hk => by rw [outM_x _ _ hho hhr]; exact hh k hk
      by_cases hb : (800 : Int) < ((l ++ (rowF (I (q 0)) dn.toNat (I x 9 - dn).toNat).map jB).length : Int)
      · rw [if_pos hb, if_pos (Or.inr hb), if_pos (Or.inr hb)]
        refine ⟨rfl, fr_tr hf (fr_tr fro (fr_tr fro (fr_put (by simp)))), fun k hk => ?_, by rw [jput_s]; rfl, ?_⟩
        · rw [jput_k _ hk, outM_x _ _ hho hhr]; exact fj k hk
        · exact outM_keep (outM_nil hor') (by funext k; exact jput_a _ (Ne.symm hho)) (by funext k; exact jput_a _ (Ne.symm hhr))
      · have hnb : ¬ ((0 : Int) ≠ 0 ∨ (800 : Int) < ((l ++ (rowF (I (q 0)) dn.toNat (I x 9 - dn).toNat).map jB).length : Int)) := fun z => z.elim (fun z => z rfl) hb
        rw [if_neg hb, if_neg hnb, if_neg hnb]
        refine ⟨rfl, fr_tr hf (fr_tr fro (fr_put (by simp))), fun k hk => ?_, by rw [jput_s]; rfl, ?_⟩
        · rw [jput_k _ hk]; exact fj k hk
        · exact outM_keep (outM_outM J _ _ hor' (Nat.le_refl _)) (by funext k; exact jput_a _ (Ne.symm hho)) (by funext k; exact jput_a _ (Ne.symm hhr))
    · exfalso
      omega
  | succ k ih =>
    intro i dn l J hi hdn hst hll hf hh h13 hw hT he
    have hRi := hR i (by omega)
    have hsi := hst i (Nat.le_refl _) (by omega)
    refine jJ_iload (pc := 33) dX6_turn_33 rfl ?_
    refine jJ_aload_n (pc := 35) dX6_turn_35 rfl ?_
    refine jJ_geti (pc := 36) dX6_turn_36 fX6_128 rfl g0 ?_
    rw [hf x xS, hn]
    refine jJ_icmp_ge (pc := 39) (tgt := 105) dX6_turn_39 (by decide) (fun c39 => ?_) (fun c39 => ?_)
    · exfalso
      omega
    · refine jJ_aload_n (pc := 42) dX6_turn_42 rfl ?_
      refine jJ_getr (pc := 43) dX6_turn_43 fX6_221 rfl (by assumption) (by assumption) ?_
      refine jJ_iload (pc := 46) dX6_turn_46 rfl ?_
      refine jJ_iald (pc := 48) dX6_turn_48 a3 ⟨by omega, by omega⟩ ?_
      rw [Int.toNat_natCast, hf _ (qS 3 (by decide))]
      refine jJ_iconst (pc := 49) dX6_turn_49 (by decide) ?_
      refine jJ_icmp_ne (pc := 50) (tgt := 99) dX6_turn_50 (by decide) (fun c50 => ?_) (fun c50 => ?_)
      · refine jJ_iinc (pc := 99) (ls' := [_, _, _, _, _, _]) dX6_turn_99 rfl ⟨by omega, by omega⟩ rfl ?_
        refine jJ_goto (pc := 102) (tgt := 33) dX6_turn_102 (by decide) ?_
        rw [turW, if_neg c50] at he
        exact ih (i + 1) dn l J (by omega) hdn (fun j hj hj2 => hst j (by omega) hj2) hll hf hh h13 hw (fun j hj hj1 => by
          by_cases hji : j = i
          · subst hji
            rw [hf _ (qS 3 (by decide))] at hj1
            exact absurd hj1 c50
          · exact hT j (by omega) hj1) he
      · rw [turW, if_pos c50] at he
        refine jJ_aload_n (pc := 53) dX6_turn_53 rfl ?_
        refine jJ_getr (pc := 54) dX6_turn_54 fX6_56 rfl (by assumption) (by first | exact p12 | exact p0 | exact p1) ?_
        refine jJ_aload_n (pc := 57) dX6_turn_57 rfl ?_
        refine jJ_getr (pc := 58) dX6_turn_58 fX6_201 rfl (by assumption) (by first | exact p12 | exact p0 | exact p1) ?_
        refine jJ_iload (pc := 61) dX6_turn_61 rfl ?_
        refine jJ_aload_n (pc := 63) dX6_turn_63 rfl ?_
        refine jJ_getr (pc := 64) dX6_turn_64 fX6_204 rfl (by assumption) (by first | exact p12 | exact p0 | exact p1) ?_
        refine jJ_iload (pc := 67) dX6_turn_67 rfl ?_
        refine jJ_iald (pc := 69) dX6_turn_69 a1 ⟨by omega, by omega⟩ ?_
        rw [Int.toNat_natCast, hf _ (qS 1 (by decide))]
        refine jJ_I hw.symm ?_
        refine jJ_callVd (pc := 70) (as := [_, _, _]) dX6_turn_70 mX6_210 (jRcv_of (by assumption) rfl rfl) (Nat.le_of_ble_eq_true rfl) (jRmx_ok (by omega) (by decide) (by decide) (by decide)) (c_Out_putAll (d := d - 1) ho hor hra hor' a0 q0o (dq 0 (by decide)).1 (by decide) (by omega) (by simp; omega) (by omega)) ?_
        rw [hf _ (qS 0 (by decide)), show min (I (q 1) i) ((800 : Nat) : Int) - ((dn.toNat : Nat) : Int) = I (q 1) i - dn by omega, oall_fit _ _ _ (by rw [rowF_len]; omega)]
        have hll1 : ((l ++ (rowF (I (q 0)) dn.toNat (I (q 1) i - dn).toNat).map jB).length : Int) = l.length + (I (q 1) i - dn) := by simp [rowF_len]; omega
        have hml := made_l2 mk (tNm I q i)
        have hnl : (tNm I q i).length = (I (q 2) i - I (q 1) i).toNat := rowF_len _ _
        have ox : ∀ a, a ≠ o → a ≠ r → outM J o r (l ++ (rowF (I (q 0)) dn.toNat (I (q 1) i - dn).toNat).map jB, 0) a = J a := fun a z1 z2 => by funext k; exact outM_x _ _ z1 z2
        have f1 : fr (h :: tnS m rm o r ms me) I (outM J o r (l ++ (rowF (I (q 0)) dn.toNat (I (q 1) i - dn).toNat).map jB, 0)) := fr_tr hf fro
        have o1 : outM (outM J o r (l ++ (rowF (I (q 0)) dn.toNat (I (q 1) i - dn).toNat).map jB, 0)) o r (l ++ (rowF (I (q 0)) dn.toNat (I (q 1) i - dn).toNat).map jB, 0) = outM J o r (l ++ (rowF (I (q 0)) dn.toNat (I (q 1) i - dn).toNat).map jB, 0) := outM_outM J _ _ hor' (Nat.le_refl _)
        have enJ : tNm J q = tNm I q := funext (fun j => tNm_fr hf (qS 0 (by decide)) (qS 1 (by decide)) (qS 2 (by decide)) j)
        have T1 : TnI (outM J o r (l ++ (rowF (I (q 0)) dn.toNat (I (q 1) i - dn).toNat).map jB, 0)) q ms me mk (l ++ (rowF (I (q 0)) dn.toNat (I (q 1) i - dn).toNat).map jB) i := TnI_app hT (by rw [f1 _ (qS 3 (by decide)), hf _ (qS 3 (by decide))]) (ox _ (jne ams.2.1 ho.2 (by decide)) (jne ams.2.1 hra.2.1 (by decide))) (ox _ (jne ame.2.1 ho.2 (by decide)) (jne ame.2.1 hra.2.1 (by decide))) (by rw [enJ]; exact funext (fun j => tNm_fr f1 (qS 0 (by decide)) (qS 1 (by decide)) (qS 2 (by decide)) j))
        have h1h : ∀ k, outM J o r (l ++ (rowF (I (q 0)) dn.toNat (I (q 1) i - dn).toNat).map jB, 0) h k = J h k := fun k => outM_x _ _ hho hhr
        generalize outM J o r (l ++ (rowF (I (q 0)) dn.toNat (I (q 1) i - dn).toNat).map jB, 0) = J1 at f1 o1 T1 h1h ⊢
        generalize l ++ (rowF (I (q 0)) dn.toNat (I (q 1) i - dn).toNat).map jB = l1 at he hll1 o1 T1
        have en : tNm J1 q = tNm I q := funext (fun j => tNm_fr f1 (qS 0 (by decide)) (qS 1 (by decide)) (qS 2 (by decide)) j)
        have k1 := c_turnName (E := E) (P := P) (d := d - 1) (h := h) (x := x) (m := m) (rm := rm) (o := o) (r := r) (ms := ms) (me := me) (tk := i) (q := q) (J := J1) (mk := mk) (l := l1) h0 hm0 hM0 hx0 hD0 (by omega) (by unfold TokR2; rw [f1 _ (qS 1 (by decide)), f1 _ (qS 2 (by decide))]; exact fun j hj => hR j (by omega)) (by rw [f1 _ (qS 3 (by decide))]; exact c50) o1 (by omega) T1 (by omega)
        rw [en, f1 _ (qS 3 (by decide))] at k1
        refine jJ_aload_n (pc := 73) dX6_turn_73 rfl ?_
        refine jJ_getr (pc := 74) dX6_turn_74 fX6_207 rfl (by assumption) (by assumption) ?_
        refine jJ_iload (pc := 77) dX6_turn_77 rfl ?_
        refine jJ_iald (pc := 79) dX6_turn_79 a2 ⟨by omega, by omega⟩ ?_
        rw [Int.toNat_natCast, f1 _ (qS 2 (by decide))]
        refine jJ_istore (pc := 80) (ls' := [_, _, _, _, _, _]) dX6_turn_80 (Nat.le_of_ble_eq_true rfl) rfl ?_
        refine jJ_aload_n (pc := 82) dX6_turn_82 rfl ?_
        refine jJ_aload_n (pc := 83) dX6_turn_83 rfl ?_
        refine jJ_iload (pc := 84) dX6_turn_84 rfl ?_
        refine jJ_iload_n (pc := 86) dX6_turn_86 rfl ?_
        refine jJ_callV (pc := 87) (as := [_, _, _]) dX6_turn_87 mX6_224 (jRcv_of (by assumption) rfl rfl) (Nat.le_of_ble_eq_true rfl) (jRmx_ok (by omega) (by decide) (by decide) (by decide)) k1 (fun v J2 P2 hq => ?_)
        obtain ⟨rfl, hf2, hq⟩ := hq
        have f2 := fr_tr f1 (frS hf2)
        have h2h : ∀ k, J2 h k = J h k := fun k => by rw [hf2 h hhS]; exact h1h k
        by_cases hok : okA mk (tNm I q i) = true ∧ metB (I (q 3)) (fun j => (made mk (tNm I q j)).1) (tNm I q) i i 0 = false
        · rw [if_pos hok] at hq he
          obtain ⟨rfl, o2, T2⟩ := hq
          refine jJ_if_ne (pc := 90) (tgt := 99) dX6_turn_90 (by decide) (fun c90 => ?_) (fun c90 => ?_)
          · refine jJ_iinc (pc := 99) (ls' := [_, _, _, _, _, _]) dX6_turn_99 rfl ⟨by omega, by omega⟩ rfl ?_
            refine jJ_goto (pc := 102) (tgt := 33) dX6_turn_102 (by decide) ?_
            refine ih (i + 1) (I (q 2) i) _ J2 (by omega) ⟨by omega, by omega⟩ (fun j hj hj2 => hO i j (by omega) hj2) (by rw [List.length_append]; omega) f2 (fun k hk => by rw [h2h]; exact hh k hk) (by rw [h2h]; exact h13) o2 T2 he
          · exact absurd c90 (by decide)
        · rw [if_neg hok] at hq he
          subst hq
          refine jJ_if_ne (pc := 90) (tgt := 99) dX6_turn_90 (by decide) (fun c90 => ?_) (fun c90 => ?_)
          · exact absurd rfl c90
          · refine jJ_aload_n (pc := 93) dX6_turn_93 rfl ?_
            refine jJ_callVd (pc := 94) (as := []) dX6_turn_94 mX6_194 (jRcv_of (by assumption) rfl rfl) (Nat.le_of_ble_eq_true rfl) (jRmx_ok (by omega) (by decide) (by decide) (by decide)) (c_clearOut (r := r) (d := d - 1) h0 p12 ho (by omega)) ?_
            refine jJ_iconst (pc := 97) dX6_turn_97 (by decide) ?_
            refine jJ_iretx (pc := 98) dX6_turn_98 rfl ⟨by decide, by decide⟩ ?_
            refine ⟨hc0, rfl, ?_⟩
            rw [turR, ← he, Option.bind_none]
            refine ⟨rfl, fr_tr f2 (fr_tr fro (fr_put (by simp))), fun k hk => ?_, by rw [jput_s]; rfl, ?_⟩
            · rw [jput_k _ hk, outM_x _ _ hho hhr, h2h]; exact hh k hk
            · exact outM_keep (outM_nil hor') (by funext k; exact jput_a _ (Ne.symm hho)) (by funext k; exact jput_a _ (Ne.symm hhr))
theorem c_turn {tx m rm o r ms me : Nat} {x : Nat → Nat} {q : Nat → Nat → Nat} {mk t : Int} (hl : (eX E).stackTraces = false) (h0 : jK E 6 h) (hT : TsL E P h tx x q) (hm : MkL E P h m rm) (hM : MdL E P h o r ms me) (hD : ∀ t, t < 12 → TnD (q t) r rm ms me) (hI : ∀ t, t < 12 → I (x t) 8 ≠ 0 → TxI I (x t) (q t) ∧ (0 ≤ I (x t) 9 ∧ I (x t) 9 ≤ 800) ∧ ∀ i j, i < j → j < (I (x t) 11).toNat → I (q t 2) i ≤ I (q t 1) j) (hd : 7 ≤ d) :
    jCx E yX6_turn cX6_turn 6 (some .int) d 2 [jp h, ji t, ji mk] I P (fun v I' P' => (exT I x t ∧ (mk = 0 ∨ mk = 1)) ∧ P' = P ∧ turQ I h o r (tnS m rm o r ms me) t (turR (I (q t.toNat 0)) (I (q t.toNat 3)) (I (q t.toNat 1)) (I (q t.toNat 2)) (tNm I (q t.toNat)) mk (I (x t.toNat) 9) (I (x t.toNat) 11).toNat) v I') (fun Ec I' P' => ((¬ exT I x t ∧ Ec = jNSE) ∨ (exT I x t ∧ ¬ (mk = 0 ∨ mk = 1) ∧ Ec = jIAE)) ∧ I' = I ∧ P' = P) := by
  have hT0 := hT
  obtain ⟨p2, atx, hTs⟩ := hT
  have hM0 := hM
  obtain ⟨p12, ho, hor, hra, p15, ams, p16, ame⟩ := hM
  have hor' : o ≠ r := jne ho.2 hra.2.1 (by decide)
  have hho : h ≠ o := jne h0.2 ho.2 (by decide)
  have hhr : h ≠ r := jne h0.2 hra.2.1 (by decide)
  refine jCx_intro (by decide +kernel) (by simp [jc, va_rf, Value.category]) (Nat.le_of_ble_eq_true rfl) ?_
  refine jJ_aload_n (pc := 0) dX6_turn_0 rfl ?_
  refine jJ_iload_n (pc := 1) dX6_turn_1 rfl ?_
  refine jJ_callVx (pc := 2) (as := [_]) dX6_turn_2 mX6_124 (jRcv_of (by assumption) rfl rfl) (Nat.le_of_ble_eq_true rfl) (jRmx_ok (by omega) (by decide) (by decide) (by decide)) (c_existing (x := x) (d := d - 1) hl h0 p2 atx (fun t ht => ⟨(hTs t ht).1, (hTs t ht).2.1⟩) (by omega)) ⟨by decide, by decide⟩ ?_ ?_
  · rintro Ec I' P' ⟨hnx, rfl, rfl, rfl⟩
    exact ⟨Or.inl ⟨hnx, rfl⟩, rfl, rfl⟩
  · rintro rr I' P' ⟨hxx, rfl, rfl, rfl⟩
    have ht : t.toNat < 12 := by have := hxx.1; have := hxx.2.1; omega
    have hx5 := (hTs t.toNat ht).2
    obtain ⟨hG, hL, hO⟩ := hI t.toNat ht hxx.2.2
    have k23 : (mk = 0 ∨ mk = 1) → jJ E yX6_turn.cls cX6_turn 6 (some .int) (jRmx d 2) (jZx E (fun v I'' P'' => (exT I' x t ∧ (mk = 0 ∨ mk = 1)) ∧ P'' = P' ∧ turQ I' h o r (tnS m rm o r ms me) t (turR (I' (q t.toNat 0)) (I' (q t.toNat 3)) (I' (q t.toNat 1)) (I' (q t.toNat 2)) (tNm I' (q t.toNat)) mk (I' (x t.toNat) 9) (I' (x t.toNat) 11).toNat) v I'') (fun Ec I'' P'' => ((¬ exT I' x t ∧ Ec = jNSE) ∨ (exT I' x t ∧ ¬ (mk = 0 ∨ mk = 1) ∧ Ec = jIAE)) ∧ I'' = I' ∧ P'' = P') 2) 1 6 23 [some (jp h), some (ji t), some (ji mk), some (jp (x t.toNat)), none, none] [] I' P' := by
      intro hmk
      refine jJ_aload_n (pc := 23) dX6_turn_23 rfl ?_
      refine jJ_callVd (pc := 24) (as := []) dX6_turn_24 mX6_194 (jRcv_of (by assumption) rfl rfl) (Nat.le_of_ble_eq_true rfl) (jRmx_ok (by omega) (by decide) (by decide) (by decide)) (c_clearOut (r := r) (d := d - 1) h0 p12 ho (by omega)) ?_
      refine jJ_iconst (pc := 27) dX6_turn_27 (by decide) ?_
      refine jJ_istore (pc := 28) (ls' := [_, _, _, _, _, _]) dX6_turn_28 (Nat.le_of_ble_eq_true rfl) rfl ?_
      refine jJ_iconst (pc := 30) dX6_turn_30 (by decide) ?_
      refine jJ_istore (pc := 31) (ls' := [_, _, _, _, _, _]) dX6_turn_31 (Nat.le_of_ble_eq_true rfl) rfl ?_
      refine turn_loop (n := (I' (x t.toNat) 11).toNat) h0 hm hM0 hx5 (hD t.toNat ht) ⟨hxx, hmk⟩ (by have := hG.1; omega) (by have := hG.1; omega) hG.2 hO hL hd (I' (x t.toNat) 11).toNat 0 0 [] _ (by omega) (by decide) (fun j hj hj2 => (hG.2 j hj2).1) (by simp) (fr_tr (fr_sub fr_out (fun a ha => by simp only [List.mem_cons, List.not_mem_nil, or_false] at ha; rcases ha with rfl | rfl <;> simp [tnS])) (fr_put (by simp))) (fun k hk => by rw [jput_k _ hk, outM_x _ _ hho hhr]) (by rw [jput_s]) (outM_keep (outM_nil hor') (by funext k; exact jput_a _ (Ne.symm hho)) (by funext k; exact jput_a _ (Ne.symm hhr))) (fun j hj => by omega) rfl
    refine jJ_astore_n (pc := 5) (ls' := [_, _, _, _, _, _]) dX6_turn_5 (Nat.le_of_ble_eq_true rfl) rfl ?_
    refine jJ_iload_n (pc := 6) dX6_turn_6 rfl ?_
    refine jJ_if_eq (pc := 7) (tgt := 23) dX6_turn_7 (by decide) (fun c7 => ?_) (fun c7 => ?_)
    · exact k23 (Or.inl c7)
    · refine jJ_iload_n (pc := 10) dX6_turn_10 rfl ?_
      refine jJ_iconst (pc := 11) dX6_turn_11 (by decide) ?_
      refine jJ_icmp_eq (pc := 12) (tgt := 23) dX6_turn_12 (by decide) (fun c12 => ?_) (fun c12 => ?_)
      · exact k23 (Or.inr c12)
      · refine jJ_throw (pc := 15) hl rfl jth_IAE dX6_turn_15 dX6_turn_18 dX6_turn_19 dX6_turn_22 (Nat.le_of_ble_eq_true rfl) (by omega) ⟨by decide, by decide⟩ ?_
        exact ⟨Or.inr ⟨hxx, by omega, rfl⟩, rfl, rfl⟩
end JTurn3
