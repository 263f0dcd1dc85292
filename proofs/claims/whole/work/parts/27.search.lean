section JSearch
variable {E : jE} {I : jI} {P : jP} {d : Nat}
def wTwo (f g : Nat → Int) (tp xp x : Int) : Nat → Nat → (Nat → Int) → Nat → Int
  | 0, _, h => h
  | k + 1, j, h => wTwo f g tp xp x k (j + 1) (if (j : Int) = x then h else weigh f g tp xp 2 x (j : Int) h)
theorem weighTwo_loop {t b : Nat} {u : Nat → Nat} {x : Int} (ht : TlL E P t u) (hb : jK E 0 b) (hf : few (I (u 0)) 3) (hg : few (I (u 1)) 300) (hp1 : 0 ≤ I t 2 ∧ I t 2 ≤ 100) (hp2 : 0 ≤ I t 3 ∧ I t 3 ≤ 100) (hx : tst x) (hd : 6 ≤ d) :
    ∀ (k j : Nat) (h : Nat → Int), j + k = 10 → jJ E yX4_weighTwo.cls cX4_weighTwo 4 none (jRm d) (jZ E (jD none (habR I b (wTwo (I (u 0)) (I (u 1)) (I t 2) (I t 3) x k j h)) P)) 0 0 2 [some (jp t), some (jp b), some (ji x), some (ji (j : Int))] [] (habR I b h) P := by
  have h0 := ht.1
  intro k
  induction k with
  | zero =>
    intro j h hk
    refine jJ_iload_n (pc := 2) dX4_weighTwo_2 rfl ?_
    refine jJ_bipush (pc := 3) dX4_weighTwo_3 (by decide) ?_
    refine jJ_icmp_ge (pc := 5) (tgt := 27) dX4_weighTwo_5 (by decide) (fun c5 => ?_) (fun c5 => ?_)
    · refine jJ_vret (pc := 27) dX4_weighTwo_27 rfl ?_
      exact ⟨rfl, rfl, rfl⟩
    · exfalso
      omega
  | succ k ih =>
    intro j h hk
    refine jJ_iload_n (pc := 2) dX4_weighTwo_2 rfl ?_
    refine jJ_bipush (pc := 3) dX4_weighTwo_3 (by decide) ?_
    refine jJ_icmp_ge (pc := 5) (tgt := 27) dX4_weighTwo_5 (by decide) (fun c5 => ?_) (fun c5 => ?_)
    · exfalso
      omega
    · refine jJ_iload_n (pc := 8) dX4_weighTwo_8 rfl ?_
      refine jJ_iload_n (pc := 9) dX4_weighTwo_9 rfl ?_
      refine jJ_icmp_eq (pc := 10) (tgt := 21) dX4_weighTwo_10 (by decide) (fun c10 => ?_) (fun c10 => ?_)
      · refine jJ_iinc (pc := 21) (ls' := [_, _, _, _]) dX4_weighTwo_21 rfl ⟨by omega, by omega⟩ rfl ?_
        refine jJ_goto (pc := 24) (tgt := 2) dX4_weighTwo_24 (by decide) ?_
        rw [wTwo, if_pos c10]
        exact ih (j + 1) h (by omega)
      · refine jJ_aload_n (pc := 13) dX4_weighTwo_13 rfl ?_
        refine jJ_aload_n (pc := 14) dX4_weighTwo_14 rfl ?_
        refine jJ_iconst (pc := 15) dX4_weighTwo_15 (by decide) ?_
        refine jJ_iload_n (pc := 16) dX4_weighTwo_16 rfl ?_
        refine jJ_iload_n (pc := 17) dX4_weighTwo_17 rfl ?_
        refine jJ_callVd (pc := 18) (as := [_, _, _, _]) dX4_weighTwo_18 mX4_49 (jRcv_of (by assumption) rfl rfl) (Nat.le_of_ble_eq_true rfl) (jRm_ok (by omega) (by decide)) (c_Tally_weigh (d := d - 1) ht hb hf hg hp1 hp2 hx ⟨by omega, by omega⟩ ⟨by decide, by decide⟩ (by omega)) ?_
        refine jJ_iinc (pc := 21) (ls' := [_, _, _, _]) dX4_weighTwo_21 rfl ⟨by omega, by omega⟩ rfl ?_
        refine jJ_goto (pc := 24) (tgt := 2) dX4_weighTwo_24 (by decide) ?_
        rw [wTwo, if_neg c10]
        exact ih (j + 1) _ (by omega)
theorem c_Tally_weighTwo {t b : Nat} {u : Nat → Nat} {x : Int} {h : Nat → Int} (ht : TlL E P t u) (hb : jK E 0 b) (hf : few (I (u 0)) 3) (hg : few (I (u 1)) 300) (hp1 : 0 ≤ I t 2 ∧ I t 2 ≤ 100) (hp2 : 0 ≤ I t 3 ∧ I t 3 ≤ 100) (hx : tst x) (hd : 6 ≤ d) :
    jC E yX4_weighTwo cX4_weighTwo 4 none d [jp t, jp b, ji x] (habR I b h) P (jD none (habR I b (wTwo (I (u 0)) (I (u 1)) (I t 2) (I t 3) x 10 0 h)) P) := by
  refine jC_intro (by decide +kernel) (by simp [jc, va_rf, Value.category]) (Nat.le_of_ble_eq_true rfl) ?_
  refine jJ_iconst (pc := 0) dX4_weighTwo_0 (by decide) ?_
  refine jJ_istore_n (pc := 1) (ls' := [_, _, _, _]) dX4_weighTwo_1 (Nat.le_of_ble_eq_true rfl) rfl ?_
  exact weighTwo_loop ht hb hf hg hp1 hp2 hx hd 10 0 h (by omega)
def sr1 (f g : Nat → Int) (tp xp : Int) : Nat → Nat → (Nat → Int) → Nat → Int
  | 0, _, h => h
  | k + 1, j, h => if tp < h 6 then sr1 f g tp xp k (j + 1) (weigh f g tp xp 1 (j : Int) (-1) h) else h
def sr2 (f g : Nat → Int) (tp xp : Int) : Nat → Nat → (Nat → Int) → Nat → Int
  | 0, _, h => h
  | k + 1, j, h => if 2 * tp < h 6 then sr2 f g tp xp k (j + 1) (wTwo f g tp xp (j : Int) 10 0 h) else h
def srch (f g : Nat → Int) (tp xp : Int) (h : Nat → Int) : Nat → Int := sr2 f g tp xp 10 0 (sr1 f g tp xp 10 0 (weigh f g tp xp 0 (-1) (-1) h))
theorem search_2 {t b : Nat} {u : Nat → Nat} {v2 v3 : Int} (ht : TlL E P t u) (hb : jK E 0 b) (hf : few (I (u 0)) 3) (hg : few (I (u 1)) 300) (hp1 : 0 ≤ I t 2 ∧ I t 2 ≤ 100) (hp2 : 0 ≤ I t 3 ∧ I t 3 ≤ 100) (hd : 7 ≤ d) :
    ∀ (k j : Nat) (h : Nat → Int), j + k = 10 → jJ E yX4_search.cls cX4_search 5 none (jRm d) (jZ E (jD none (habR I b (sr2 (I (u 0)) (I (u 1)) (I t 2) (I t 3) k j h)) P)) 0 0 57 [some (jp t), some (jp b), some (ji v2), some (ji v3), some (ji (j : Int))] [] (habR I b h) P := by
  have h0 := ht.1
  have nt : t ≠ b := jne h0.2 hb.2 (by decide)
  intro k
  induction k with
  | zero =>
    intro j h hk
    refine jJ_iload (pc := 57) dX4_search_57 rfl ?_
    refine jJ_bipush (pc := 59) dX4_search_59 (by decide) ?_
    refine jJ_icmp_ge (pc := 61) (tgt := 90) dX4_search_61 (by decide) (fun c61 => ?_) (fun c61 => ?_)
    · refine jJ_vret (pc := 90) dX4_search_90 rfl ?_
      exact ⟨rfl, rfl, rfl⟩
    · exfalso
      omega
  | succ k ih =>
    intro j h hk
    refine jJ_iload (pc := 57) dX4_search_57 rfl ?_
    refine jJ_bipush (pc := 59) dX4_search_59 (by decide) ?_
    refine jJ_icmp_ge (pc := 61) (tgt := 90) dX4_search_61 (by decide) (fun c61 => ?_) (fun c61 => ?_)
    · exfalso
      omega
    · refine jJ_iconst (pc := 64) dX4_search_64 (by decide) ?_
      refine jJ_aload_n (pc := 65) dX4_search_65 rfl ?_
      refine jJ_geti (pc := 66) dX4_search_66 fX4_42 rfl (by assumption) ?_
      rw [habR_x nt]
      refine jJ_imul (pc := 69) dX4_search_69 ⟨by omega, by omega⟩ ?_
      refine jJ_aload_n (pc := 70) dX4_search_70 rfl ?_
      refine jJ_geti (pc := 71) dX4_search_71 fX4_53 rfl (by assumption) ?_
      rw [habR_s (by decide)]
      refine jJ_icmp_ge (pc := 74) (tgt := 90) dX4_search_74 (by decide) (fun c74 => ?_) (fun c74 => ?_)
      · refine jJ_vret (pc := 90) dX4_search_90 rfl ?_
        exact ⟨rfl, by rw [sr2, if_neg (by omega)], rfl⟩
      · refine jJ_aload_n (pc := 77) dX4_search_77 rfl ?_
        refine jJ_aload_n (pc := 78) dX4_search_78 rfl ?_
        refine jJ_iload (pc := 79) dX4_search_79 rfl ?_
        refine jJ_callVd (pc := 81) (as := [_, _]) dX4_search_81 mX4_58 (jRcv_of (by assumption) rfl rfl) (Nat.le_of_ble_eq_true rfl) (jRm_ok (by omega) (by decide)) (c_Tally_weighTwo (d := d - 1) ht hb hf hg hp1 hp2 ⟨by omega, by omega⟩ (by omega)) ?_
        refine jJ_iinc (pc := 84) (ls' := [_, _, _, _, _]) dX4_search_84 rfl ⟨by omega, by omega⟩ rfl ?_
        refine jJ_goto (pc := 87) (tgt := 57) dX4_search_87 (by decide) ?_
        rw [sr2, if_pos (by omega)]
        exact ih (j + 1) _ (by omega)
theorem search_1 {t b : Nat} {u : Nat → Nat} {v2 v3 : Int} (ht : TlL E P t u) (hb : jK E 0 b) (hf : few (I (u 0)) 3) (hg : few (I (u 1)) 300) (hp1 : 0 ≤ I t 2 ∧ I t 2 ≤ 100) (hp2 : 0 ≤ I t 3 ∧ I t 3 ≤ 100) (hd : 7 ≤ d) :
    ∀ (k j : Nat) (h : Nat → Int), j + k = 10 → jJ E yX4_search.cls cX4_search 5 none (jRm d) (jZ E (jD none (habR I b (sr2 (I (u 0)) (I (u 1)) (I t 2) (I t 3) 10 0 (sr1 (I (u 0)) (I (u 1)) (I t 2) (I t 3) k j h))) P)) 0 0 21 [some (jp t), some (jp b), some (ji v2), some (ji v3), some (ji (j : Int))] [] (habR I b h) P := by
  have h0 := ht.1
  have nt : t ≠ b := jne h0.2 hb.2 (by decide)
  intro k
  induction k with
  | zero =>
    intro j h hk
    refine jJ_iload (pc := 21) dX4_search_21 rfl ?_
    refine jJ_bipush (pc := 23) dX4_search_23 (by decide) ?_
    refine jJ_icmp_ge (pc := 25) (tgt := 54) dX4_search_25 (by decide) (fun c25 => ?_) (fun c25 => ?_)
    · refine jJ_iconst (pc := 54) dX4_search_54 (by decide) ?_
      refine jJ_istore (pc := 55) (ls' := [_, _, _, _, _]) dX4_search_55 (Nat.le_of_ble_eq_true rfl) rfl ?_
      exact search_2 ht hb hf hg hp1 hp2 hd 10 0 h (by omega)
    · exfalso
      omega
  | succ k ih =>
    intro j h hk
    refine jJ_iload (pc := 21) dX4_search_21 rfl ?_
    refine jJ_bipush (pc := 23) dX4_search_23 (by decide) ?_
    refine jJ_icmp_ge (pc := 25) (tgt := 54) dX4_search_25 (by decide) (fun c25 => ?_) (fun c25 => ?_)
    · exfalso
      omega
    · refine jJ_aload_n (pc := 28) dX4_search_28 rfl ?_
      refine jJ_geti (pc := 29) dX4_search_29 fX4_42 rfl (by assumption) ?_
      rw [habR_x nt]
      refine jJ_aload_n (pc := 32) dX4_search_32 rfl ?_
      refine jJ_geti (pc := 33) dX4_search_33 fX4_53 rfl (by assumption) ?_
      rw [habR_s (by decide)]
      refine jJ_icmp_ge (pc := 36) (tgt := 54) dX4_search_36 (by decide) (fun c36 => ?_) (fun c36 => ?_)
      · refine jJ_iconst (pc := 54) dX4_search_54 (by decide) ?_
        refine jJ_istore (pc := 55) (ls' := [_, _, _, _, _]) dX4_search_55 (Nat.le_of_ble_eq_true rfl) rfl ?_
        rw [sr1, if_neg (by omega)]
        exact search_2 ht hb hf hg hp1 hp2 hd 10 0 h (by omega)
      · refine jJ_aload_n (pc := 39) dX4_search_39 rfl ?_
        refine jJ_aload_n (pc := 40) dX4_search_40 rfl ?_
        refine jJ_iconst (pc := 41) dX4_search_41 (by decide) ?_
        refine jJ_iload (pc := 42) dX4_search_42 rfl ?_
        refine jJ_iconst (pc := 44) dX4_search_44 (by decide) ?_
        refine jJ_callVd (pc := 45) (as := [_, _, _, _]) dX4_search_45 mX4_49 (jRcv_of (by assumption) rfl rfl) (Nat.le_of_ble_eq_true rfl) (jRm_ok (by omega) (by decide)) (c_Tally_weigh (d := d - 1) ht hb hf hg hp1 hp2 ⟨by omega, by omega⟩ ⟨by omega, by omega⟩ ⟨by decide, by decide⟩ (by omega)) ?_
        refine jJ_iinc (pc := 48) (ls' := [_, _, _, _, _]) dX4_search_48 rfl ⟨by omega, by omega⟩ rfl ?_
        refine jJ_goto (pc := 51) (tgt := 21) dX4_search_51 (by decide) ?_
        rw [sr1, if_pos (by omega)]
        exact ih (j + 1) _ (by omega)
theorem habR_self {I : jI} {b : Nat} : habR I b (I b) = I := by
  funext a k
  simp only [habR]
  split
  · next h => rw [h.1]
  · rfl
theorem c_Tally_search {t b : Nat} {u : Nat → Nat} {tp xp : Int} (ht : TlL E P t u) (hb : jK E 0 b) (hf : few (I (u 0)) 3) (hg : few (I (u 1)) 300) (hp1 : 0 ≤ tp ∧ tp ≤ 100) (hp2 : 0 ≤ xp ∧ xp ≤ 100) (hd : 7 ≤ d) :
    jC E yX4_search cX4_search 5 none d [jp t, jp b, ji tp, ji xp] I P (jD none (habR (jput (jput I t 2 tp) t 3 xp) b (srch (I (u 0)) (I (u 1)) tp xp (I b))) P) := by
  have ht0 := ht
  obtain ⟨h0, p0, p1, a0, a1, hne⟩ := ht
  have nt : t ≠ b := jne h0.2 hb.2 (by decide)
  have n0 : u 0 ≠ t := jne a0.2.1 h0.2 (by decide)
  have n1 : u 1 ≠ t := jne a1.2.1 h0.2 (by decide)
  have e0 : jput (jput I t 2 tp) t 3 xp (u 0) = I (u 0) := funext (fun k => by rw [jput_a _ n0, jput_a _ n0])
  have e1 : jput (jput I t 2 tp) t 3 xp (u 1) = I (u 1) := funext (fun k => by rw [jput_a _ n1, jput_a _ n1])
  have eb : jput (jput I t 2 tp) t 3 xp b = I b := funext (fun k => by rw [jput_a _ (Ne.symm nt), jput_a _ (Ne.symm nt)])
  have q2 : jput (jput I t 2 tp) t 3 xp t 2 = tp := by rw [jput_k _ (by decide), jput_s]
  have q3 : jput (jput I t 2 tp) t 3 xp t 3 = xp := jput_s _ _ _ _
  refine jC_intro (by decide +kernel) (by simp [jc, va_rf, Value.category]) (Nat.le_of_ble_eq_true rfl) ?_
  refine jJ_aload_n (pc := 0) dX4_search_0 rfl ?_
  refine jJ_iload_n (pc := 1) dX4_search_1 rfl ?_
  refine jJ_puti (pc := 2) dX4_search_2 fX4_42w rfl ⟨rfl, rfl⟩ (by assumption) ?_
  refine jJ_aload_n (pc := 5) dX4_search_5 rfl ?_
  refine jJ_iload_n (pc := 6) dX4_search_6 rfl ?_
  refine jJ_puti (pc := 7) dX4_search_7 fX4_46w rfl ⟨rfl, rfl⟩ (by assumption) ?_
  refine jJ_aload_n (pc := 10) dX4_search_10 rfl ?_
  refine jJ_aload_n (pc := 11) dX4_search_11 rfl ?_
  refine jJ_iconst (pc := 12) dX4_search_12 (by decide) ?_
  refine jJ_iconst (pc := 13) dX4_search_13 (by decide) ?_
  refine jJ_iconst (pc := 14) dX4_search_14 (by decide) ?_
  have key : jJ E yX4_search.cls cX4_search 5 none (jRm d) (jZ E (jD none (habR (jput (jput I t 2 tp) t 3 xp) b (srch (I (u 0)) (I (u 1)) tp xp (I b))) P)) 0 0 15 [some (jp t), some (jp b), some (ji tp), some (ji xp), none] [ji (-1), ji (-1), ji 0, jp b, jp t] (habR (jput (jput I t 2 tp) t 3 xp) b (jput (jput I t 2 tp) t 3 xp b)) P := by
    refine jJ_callVd (pc := 15) (as := [_, _, _, _]) dX4_search_15 mX4_49 (jRcv_of (by assumption) rfl rfl) (Nat.le_of_ble_eq_true rfl) (jRm_ok (by omega) (by decide)) (c_Tally_weigh (d := d - 1) ht0 hb (by rw [e0]; exact hf) (by rw [e1]; exact hg) (by rw [q2]; exact hp1) (by rw [q3]; exact hp2) ⟨by decide, by decide⟩ ⟨by decide, by decide⟩ ⟨by decide, by decide⟩ (by omega)) ?_
    rw [e0, e1, eb, q2, q3]
    refine jJ_iconst (pc := 18) dX4_search_18 (by decide) ?_
    refine jJ_istore (pc := 19) (ls' := [_, _, _, _, _]) dX4_search_19 (Nat.le_of_ble_eq_true rfl) rfl ?_
    have h := search_1 (v2 := tp) (v3 := xp) (I := jput (jput I t 2 tp) t 3 xp) (d := d) ht0 hb (by rw [e0]; exact hf) (by rw [e1]; exact hg) (by rw [q2]; exact hp1) (by rw [q3]; exact hp2) hd 10 0 (weigh (I (u 0)) (I (u 1)) tp xp 0 (-1) (-1) (I b)) (by omega)
    rw [e0, e1, q2, q3] at h
    exact h
  rw [habR_self] at key
  exact key
end JSearch
