section JRG2
variable {E : jE} {I : jI} {P : jP} {d m : Nat} {a : Nat → Nat}
/-- whether a row of these TESTS and choices tells a gap wrong -/
def fex (n x b y c l : Int) : Int → Int → Int → Int := fun bits p ch => if ch ≠ rTl bits (jb (p = 1)) n x b y c l then 1 else 0
def inr (J : jI) (a : Nat → Nat) (f : Int → Int → Int → Int) (k : Nat) : Nat → Nat → Int
  | _, 0 => 0
  | c, r + 1 => J (a 30) (4 * k + c) * f (J (a 28) k) (J (a 29) k) (c : Int) + inr J a f k (c + 1) r
theorem grp_inr (J : jI) (a : Nat → Nat) (f : Int → Int → Int → Int) (k : Nat) : grp J a f (k + 1) = grp J a f k + inr J a f k 0 4 := by
  simp only [grp, inr, Nat.add_zero, Nat.zero_add, Nat.reduceAdd, show ((0 : Nat) : Int) = 0 from rfl, show ((1 : Nat) : Int) = 1 from rfl, show ((2 : Nat) : Int) = 2 from rfl, show ((3 : Nat) : Int) = 3 from rfl]
  omega
theorem inr_r {J : jI} {f : Int → Int → Int → Int} {k : Nat} {B : Int} (hf : ∀ u v w, f u v w = 0 ∨ f u v w = 1) : ∀ (r c : Nat), c + r ≤ 4 → (∀ j, j < 4 → 0 ≤ J (a 30) (4 * k + j) ∧ J (a 30) (4 * k + j) ≤ B) → 0 ≤ inr J a f k c r ∧ inr J a f k c r ≤ r * B
  | 0, c, _, _ => by simp [inr]
  | r + 1, c, hc, hb => by
    have ih := inr_r (k := k) hf r (c + 1) (by omega) hb
    have h1 := hb c (by omega)
    simp only [inr]
    have e : ((r + 1 : Nat) : Int) * B = (r : Int) * B + B := by rw [show ((r + 1 : Nat) : Int) = (r : Int) + 1 by omega, Int.add_mul, Int.one_mul]
    rcases hf (J (a 28) k) (J (a 29) k) (c : Int) with h | h <;> rw [h]
    · simp only [Int.mul_zero]; omega
    · simp only [Int.mul_one]; omega
theorem fex_01 (n x b y c l : Int) : ∀ u v w, fex n x b y c l u v w = 0 ∨ fex n x b y c l u v w = 1 := by
  intro u v w
  unfold fex
  split <;> simp
theorem grp_r {J : jI} {f : Int → Int → Int → Int} {B : Int} (hf : ∀ u v w, f u v w = 0 ∨ f u v w = 1) : ∀ n : Nat, (∀ k, k < 4 * n → 0 ≤ J (a 30) k ∧ J (a 30) k ≤ B) → 0 ≤ grp J a f n ∧ grp J a f n ≤ n * (4 * B)
  | 0, _ => by simp [grp]
  | n + 1, h => by
    have ih := grp_r hf n (fun k hk => h k (by omega))
    have hi := inr_r (J := J) (a := a) (k := n) (B := B) hf 4 0 (by omega) (fun j hj => h (4 * n + j) (by omega))
    rw [grp_inr]
    have e : ((n + 1 : Nat) : Int) * (4 * B) = (n : Int) * (4 * B) + 4 * B := by rw [show ((n + 1 : Nat) : Int) = (n : Int) + 1 by omega, Int.add_mul, Int.one_mul]
    have e4 : ((4 : Nat) : Int) * B = 4 * B := rfl
    omega
theorem grp_le1 {J : jI} {f : Int → Int → Int → Int} (hf : ∀ u v w, f u v w = 0 ∨ f u v w = 1) : ∀ n : Nat, (∀ k, k < 4 * n → 0 ≤ J (a 30) k) → grp J a f n ≤ grp J a (fun _ _ _ => 1) n
  | 0, _ => by simp [grp]
  | n + 1, h => by
    have ih := grp_le1 hf n (fun k hk => h k (by omega))
    have h0 := h (4 * n) (by omega)
    have h1 := h (4 * n + 1) (by omega)
    have h2 := h (4 * n + 2) (by omega)
    have h3 := h (4 * n + 3) (by omega)
    have m : ∀ v w : Int, 0 ≤ w → (v = 0 ∨ v = 1) → w * v ≤ w * 1 := fun v w hw hv => by rcases hv with rfl | rfl <;> simp [hw]
    simp only [grp]
    have := m _ _ h0 (hf (J (a 28) n) (J (a 29) n) 0)
    have := m _ _ h1 (hf (J (a 28) n) (J (a 29) n) 1)
    have := m _ _ h2 (hf (J (a 28) n) (J (a 29) n) 2)
    have := m _ _ h3 (hf (J (a 28) n) (J (a 29) n) 3)
    omega
theorem x_exceptions {n x b y c l : Int} {F : (Int → Int → Int → Int) → Int} {N : Nat} (hR : RfL E P m a) (hG : GI I m a N F) (hN : N ≤ 2388) (hd : 1 ≤ d) :
    jC E yX7_exceptions cX7_exceptions 11 (some .int) d [jp m, ji n, ji x, ji b, ji y, ji c, ji l] I P (jD (some (ji (F (fex n x b y c l)))) I P) := by
  obtain ⟨K, g1, g2, g3, g4⟩ := hG
  have hf := fex_01 n x b y c l
  have inn : ∀ (r q k : Nat) (s : Int) (v : Int), q + r = 4 → k < K → v = rTl (I (a 28) k) (jb (I (a 29) k = 1)) n x b y c l → 0 ≤ s → s ≤ 100000000 - r * 3000 → (∀ z, jJ E yX7_exceptions.cls cX7_exceptions 11 (some .int) (jRm d) (jZ E (jD (some (ji (F (fex n x b y c l)))) I P)) 0 0 91 [some (jp m), some (ji n), some (ji x), some (ji b), some (ji y), some (ji c), some (ji l), some (ji (s + inr I a (fex n x b y c l) k q r)), some (ji (k : Int)), some (ji v), z] [] I P) → jJ E yX7_exceptions.cls cX7_exceptions 11 (some .int) (jRm d) (jZ E (jD (some (ji (F (fex n x b y c l)))) I P)) 0 0 55 [some (jp m), some (ji n), some (ji x), some (ji b), some (ji y), some (ji c), some (ji l), some (ji s), some (ji (k : Int)), some (ji v), some (ji (q : Int))] [] I P := by
    intro r
    induction r with
    | zero =>
      intro q k s v hq hk hv h1 h2 kk
      refine jJ_iload (pc := 55) dX7_exceptions_55 rfl ?_
      refine jJ_iconst (pc := 57) dX7_exceptions_57 (by decide) ?_
      refine jJ_icmp_ge (pc := 58) (tgt := 91) dX7_exceptions_58 (by decide) (fun c58 => ?_) (fun c58 => ?_)
      · have := kk (some (ji (q : Int)))
        rw [inr, Int.add_zero] at this
        exact this
      · exfalso
        omega
    | succ r ih =>
      intro q k s v hq hk hv h1 h2 kk
      have hb := g3 (4 * k + q) (by omega)
      have et : (4 * (k : Int) + (q : Int)).toNat = 4 * k + q := by omega
      refine jJ_iload (pc := 55) dX7_exceptions_55 rfl ?_
      refine jJ_iconst (pc := 57) dX7_exceptions_57 (by decide) ?_
      refine jJ_icmp_ge (pc := 58) (tgt := 91) dX7_exceptions_58 (by decide) (fun c58 => ?_) (fun c58 => ?_)
      · exfalso
        omega
      · refine jJ_iload (pc := 61) dX7_exceptions_61 rfl ?_
        refine jJ_iload (pc := 63) dX7_exceptions_63 rfl ?_
        refine jJ_icmp_eq (pc := 65) (tgt := 85) dX7_exceptions_65 (by decide) (fun c65 => ?_) (fun c65 => ?_)
        · refine jJ_iinc (pc := 85) (ls' := [_, _, _, _, _, _, _, _, _, _, _]) dX7_exceptions_85 rfl ⟨by omega, by omega⟩ rfl ?_
          refine jJ_goto (pc := 88) (tgt := 55) dX7_exceptions_88 (by decide) ?_
          refine ih (q + 1) k s v (by omega) hk hv h1 (by omega) (fun z => ?_)
          have := kk z
          rw [inr, show fex n x b y c l (I (a 28) k) (I (a 29) k) (q : Int) = 0 by unfold fex; rw [if_neg (by rw [← hv]; exact fun z => z c65)], Int.mul_zero, Int.zero_add] at this
          exact this
        · refine jJ_iload (pc := 68) dX7_exceptions_68 rfl ?_
          refine jJ_aload_n (pc := 70) dX7_exceptions_70 rfl ?_
          refine jJ_getr (pc := 71) dX7_exceptions_71 fX7_69 rfl hR.1 hR.p30 ?_
          try simp only [et]
          refine jJ_iconst (pc := 74) dX7_exceptions_74 (by decide) ?_
          refine jJ_iload (pc := 75) dX7_exceptions_75 rfl ?_
          refine jJ_imul (pc := 77) dX7_exceptions_77 ⟨by omega, by omega⟩ ?_
          refine jJ_iload (pc := 78) dX7_exceptions_78 rfl ?_
          refine jJ_iadd (pc := 80) dX7_exceptions_80 ⟨by omega, by omega⟩ ?_
          refine jJ_iald (pc := 81) dX7_exceptions_81 hR.a30 ⟨by omega, by omega⟩ ?_
          try simp only [et]
          refine jJ_iadd (pc := 82) dX7_exceptions_82 ⟨by omega, by omega⟩ ?_
          refine jJ_istore (pc := 83) (ls' := [_, _, _, _, _, _, _, _, _, _, _]) dX7_exceptions_83 (Nat.le_of_ble_eq_true rfl) rfl ?_
          refine jJ_iinc (pc := 85) (ls' := [_, _, _, _, _, _, _, _, _, _, _]) dX7_exceptions_85 rfl ⟨by omega, by omega⟩ rfl ?_
          refine jJ_goto (pc := 88) (tgt := 55) dX7_exceptions_88 (by decide) ?_
          refine ih (q + 1) k (s + I (a 30) (4 * k + q)) v (by omega) hk hv (by omega) (by omega) (fun z => ?_)
          have := kk z
          rw [inr, show fex n x b y c l (I (a 28) k) (I (a 29) k) (q : Int) = 1 by unfold fex; rw [if_pos (by rw [← hv]; exact c65)], Int.mul_one, ← Int.add_assoc] at this
          exact this
  have out : ∀ (r k : Nat) (z9 z10 : Option jV), k + r = K → jJ E yX7_exceptions.cls cX7_exceptions 11 (some .int) (jRm d) (jZ E (jD (some (ji (F (fex n x b y c l)))) I P)) 0 0 6 [some (jp m), some (ji n), some (ji x), some (ji b), some (ji y), some (ji c), some (ji l), some (ji (grp I a (fex n x b y c l) k)), some (ji (k : Int)), z9, z10] [] I P := by
    intro r
    induction r with
    | zero =>
      intro k z9 z10 hk
      refine jJ_iload (pc := 6) dX7_exceptions_6 rfl ?_
      refine jJ_aload_n (pc := 8) dX7_exceptions_8 rfl ?_
      refine jJ_geti (pc := 9) dX7_exceptions_9 fX7_235 rfl hR.1 ?_
      try simp only [g1]
      refine jJ_icmp_ge (pc := 12) (tgt := 97) dX7_exceptions_12 (by decide) (fun c12 => ?_) (fun c12 => ?_)
      · refine jJ_iload (pc := 97) dX7_exceptions_97 rfl ?_
        refine jJ_iret (pc := 99) dX7_exceptions_99 rfl ?_
        exact ⟨by rw [show k = K by omega, g4], rfl, rfl⟩
      · exfalso
        omega
    | succ r ih =>
      intro k z9 z10 hk
      have hgr := grp_r (J := I) (a := a) (B := (N : Int)) hf k (fun j hj => g3 j (by omega))
      have hB : (k : Int) * (4 * (N : Int)) ≤ 90000000 := by
        have : (k : Int) * (4 * (N : Int)) ≤ 2388 * (4 * 2388) := Int.mul_le_mul (by omega) (by omega) (by omega) (by omega)
        omega
      refine jJ_iload (pc := 6) dX7_exceptions_6 rfl ?_
      refine jJ_aload_n (pc := 8) dX7_exceptions_8 rfl ?_
      refine jJ_geti (pc := 9) dX7_exceptions_9 fX7_235 rfl hR.1 ?_
      try simp only [g1]
      refine jJ_icmp_ge (pc := 12) (tgt := 97) dX7_exceptions_12 (by decide) (fun c12 => ?_) (fun c12 => ?_)
      · exfalso
        omega
      · have fin : ∀ p : Int, p = jb (I (a 29) k = 1) → jJ E yX7_exceptions.cls cX7_exceptions 11 (some .int) (jRm d) (jZ E (jD (some (ji (F (fex n x b y c l)))) I P)) 0 0 38 [some (jp m), some (ji n), some (ji x), some (ji b), some (ji y), some (ji c), some (ji l), some (ji (grp I a (fex n x b y c l) k)), some (ji (k : Int)), z9, z10] [ji p, ji (I (a 28) k)] I P := by
          intro p hp
          refine jJ_iload_n (pc := 38) dX7_exceptions_38 rfl ?_
          refine jJ_iload_n (pc := 39) dX7_exceptions_39 rfl ?_
          refine jJ_iload_n (pc := 40) dX7_exceptions_40 rfl ?_
          refine jJ_iload (pc := 41) dX7_exceptions_41 rfl ?_
          refine jJ_iload (pc := 43) dX7_exceptions_43 rfl ?_
          refine jJ_iload (pc := 45) dX7_exceptions_45 rfl ?_
          refine jJ_callSd (pc := 47) (as := [_, _, _, _, _, _, _, _]) dX7_exceptions_47 mX7_241 (Nat.le_of_ble_eq_true rfl) (jRm_ok (by omega) (by decide)) (r_tells (d := d - 1)) ?_
          refine jJ_istore (pc := 50) (ls' := [_, _, _, _, _, _, _, _, _, _, _]) dX7_exceptions_50 (Nat.le_of_ble_eq_true rfl) rfl ?_
          refine jJ_iconst (pc := 52) dX7_exceptions_52 (by decide) ?_
          refine jJ_istore (pc := 53) (ls' := [_, _, _, _, _, _, _, _, _, _, _]) dX7_exceptions_53 (Nat.le_of_ble_eq_true rfl) rfl ?_
          refine inn 4 0 k _ _ (by omega) (by omega) (by rw [hp]) hgr.1 (by omega) (fun z => ?_)
          refine jJ_iinc (pc := 91) (ls' := [_, _, _, _, _, _, _, _, _, _, _]) dX7_exceptions_91 rfl ⟨by omega, by omega⟩ rfl ?_
          refine jJ_goto (pc := 94) (tgt := 6) dX7_exceptions_94 (by decide) ?_
          rw [← grp_inr]
          exact ih (k + 1) _ _ (by omega)
        refine jJ_aload_n (pc := 15) dX7_exceptions_15 rfl ?_
        refine jJ_getr (pc := 16) dX7_exceptions_16 fX7_63 rfl hR.1 hR.p28 ?_
        try simp only [Int.toNat_natCast]
        refine jJ_iload (pc := 19) dX7_exceptions_19 rfl ?_
        refine jJ_iald (pc := 21) dX7_exceptions_21 hR.a28 ⟨by omega, by omega⟩ ?_
        try simp only [Int.toNat_natCast]
        refine jJ_aload_n (pc := 22) dX7_exceptions_22 rfl ?_
        refine jJ_getr (pc := 23) dX7_exceptions_23 fX7_66 rfl hR.1 hR.p29 ?_
        try simp only [Int.toNat_natCast]
        refine jJ_iload (pc := 26) dX7_exceptions_26 rfl ?_
        refine jJ_iald (pc := 28) dX7_exceptions_28 hR.a29 ⟨by omega, by omega⟩ ?_
        try simp only [Int.toNat_natCast]
        refine jJ_iconst (pc := 29) dX7_exceptions_29 (by decide) ?_
        refine jJ_icmp_ne (pc := 30) (tgt := 37) dX7_exceptions_30 (by decide) (fun c30 => ?_) (fun c30 => ?_)
        · refine jJ_iconst (pc := 37) dX7_exceptions_37 (by decide) ?_
          exact fin 0 (jb_f (by assumption))
        · refine jJ_iconst (pc := 33) dX7_exceptions_33 (by decide) ?_
          refine jJ_goto (pc := 34) (tgt := 38) dX7_exceptions_34 (by decide) ?_
          exact fin 1 (jb_t (by assumption))
  refine jC_intro (by decide +kernel) (by simp [jc, va_rf, Value.category]) (Nat.le_of_ble_eq_true rfl) ?_
  refine jJ_iconst (pc := 0) dX7_exceptions_0 (by decide) ?_
  refine jJ_istore (pc := 1) (ls' := [_, _, _, _, _, _, _, _, _, _, _]) dX7_exceptions_1 (Nat.le_of_ble_eq_true rfl) rfl ?_
  refine jJ_iconst (pc := 3) dX7_exceptions_3 (by decide) ?_
  refine jJ_istore (pc := 4) (ls' := [_, _, _, _, _, _, _, _, _, _, _]) dX7_exceptions_4 (Nat.le_of_ble_eq_true rfl) rfl ?_
  exact out K 0 none none (by omega)
/-- a habit's row among the reference's rows -/
def hbM (I : jI) (a : Nat → Nat) (kd : Nat) (h : Nat → Int) : jI := fun b j => if b = a 18 ∧ 8 * kd ≤ j ∧ j < 8 * kd + 8 then h (j - 8 * kd) else I b j
theorem hbM_x {kd b : Nat} {h : Nat → Int} (hb : b ≠ a 18) : hbM I a kd h b = I b := by funext j; simp [hbM, hb]
theorem hbM_at {kd j : Nat} {h : Nat → Int} (hj : j < 8) : hbM I a kd h (a 18) (8 * kd + j) = h j := by
  unfold hbM
  rw [if_pos ⟨rfl, by omega, by omega⟩, show 8 * kd + j - 8 * kd = j by omega]
theorem hbM_p {kd j : Nat} {h : Nat → Int} {v : Int} (hj : j < 8) : jput (hbM I a kd h) (a 18) (8 * kd + j) v = hbM I a kd (fun i => if i = j then v else h i) := by
  funext b i
  simp only [jput, hbM]
  by_cases hb : b = a 18
  · subst hb
    by_cases q : i = 8 * kd + j
    · subst q
      simp [hj]
    · simp only [true_and, q, if_false]
      by_cases q2 : 8 * kd ≤ i ∧ i < 8 * kd + 8
      · rw [if_pos q2, if_pos q2, if_neg (by omega)]
      · rw [if_neg q2, if_neg q2]
  · simp [hb]
theorem hbM_ext {kd : Nat} {h h' : Nat → Int} (e : ∀ k, k < 8 → h k = h' k) : hbM I a kd h = hbM I a kd h' := by
  funext b j
  simp only [hbM]
  by_cases q : b = a 18 ∧ 8 * kd ≤ j ∧ j < 8 * kd + 8
  · rw [if_pos q, if_pos q, e _ (by omega)]
  · rw [if_neg q, if_neg q]
theorem hbM_GI {kd N : Nat} {h : Nat → Int} {F : (Int → Int → Int → Int) → Int} (hR : RfL E P m a) (hG : GI I m a N F) : GI (hbM I a kd h) m a N F := by
  obtain ⟨K, g1, g2, g3, g4⟩ := hG
  have e28 : hbM I a kd h (a 28) = I (a 28) := hbM_x (hR.d (by decide) (by decide) (by decide))
  have e29 : hbM I a kd h (a 29) = I (a 29) := hbM_x (hR.d (by decide) (by decide) (by decide))
  have e30 : hbM I a kd h (a 30) = I (a 30) := hbM_x (hR.d (by decide) (by decide) (by decide))
  refine ⟨K, by rw [hbM_x (Ne.symm hR.n18)]; exact g1, g2, fun k hk => by rw [e30]; exact g3 k hk, fun f => ?_⟩
  rw [← g4 f]
  exact grp_cg K (fun k _ => by rw [e28, e29]; exact ⟨rfl, rfl⟩) (fun k _ => by rw [e30])
/-- a row of these TESTS and choices, as it is kept -/
def rowC (n x b y c l co ex : Int) : Nat → Int := habN n (if 0 < n then x else -1) (if 0 < n then b else -1) (if 1 < n then y else -1) (if 1 < n then c else -1) l co ex
/-- the best row, this one tried too -/
def tryC (F : (Int → Int → Int → Int) → Int) (tp xp n x b y c l : Int) (h : Nat → Int) : Nat → Int := if h 6 ≤ tp * n + xp * F (fex n x b y c l) then h else rowC n x b y c l (tp * n + xp * F (fex n x b y c l)) (F (fex n x b y c l))
theorem x_tries {kd : Nat} {n x b y c l tp xp : Int} {h : Nat → Int} {F : (Int → Int → Int → Int) → Int} (hR : RfL E P m a) (hG : GI I m a 2388 F) (hF1 : F (fun _ _ _ => 1) ≤ 2388) (hkd : kd < 16) (hn : 0 ≤ n ∧ n ≤ 2) (htp : I (a 17) 0 = tp ∧ 0 ≤ tp ∧ tp ≤ 100) (hxp : I (a 17) 1 = xp ∧ 0 ≤ xp ∧ xp ≤ 100) (hd : 2 ≤ d) :
    jC E yX7_tries cX7_tries 11 none d [jp m, ji (kd : Int), ji n, ji x, ji b, ji y, ji c, ji l] (hbM I a kd h) P (jD none (hbM I a kd (tryC F tp xp n x b y c l h)) P) := by
  have hG' := hbM_GI (kd := kd) (h := h) hR hG
  have hex : 0 ≤ F (fex n x b y c l) ∧ F (fex n x b y c l) ≤ 2388 := by
    obtain ⟨K, g1, g2, g3, g4⟩ := hG
    have h1 := grp_r (J := I) (a := a) (B := (2388 : Nat)) (fex_01 n x b y c l) K g3
    have h2 := grp_le1 (J := I) (a := a) (fex_01 n x b y c l) K (fun k hk => (g3 k hk).1)
    rw [g4, g4] at h2
    rw [g4] at h1
    omega
  have e170 : hbM I a kd h (a 17) ((0 : Int).toNat) = tp := by rw [hbM_x (hR.d (by decide) (by decide) (by decide))]; exact htp.1
  have e171 : hbM I a kd h (a 17) ((1 : Int).toNat) = xp := by rw [hbM_x (hR.d (by decide) (by decide) (by decide))]; exact hxp.1
  have m1 : 0 ≤ tp * n ∧ tp * n ≤ 200 := by
    have hq : n = 0 ∨ n = 1 ∨ n = 2 := by omega
    rcases hq with rfl | rfl | rfl <;> omega
  have m2 : 0 ≤ xp * F (fex n x b y c l) ∧ xp * F (fex n x b y c l) ≤ 238800 := by
    refine ⟨Int.mul_nonneg hxp.2.1 hex.1, ?_⟩
    have : xp * F (fex n x b y c l) ≤ 100 * 2388 := Int.mul_le_mul hxp.2.2 hex.2 hex.1 (by decide)
    omega
  generalize hco : tp * n + xp * F (fex n x b y c l) = co
  have ix : ∀ j : Nat, (8 * (kd : Int) + (j : Int)).toNat = 8 * kd + j := fun j => by omega
  have ix0 : (8 * (kd : Int)).toNat = 8 * kd + 0 := by omega
  have ix1 : (8 * (kd : Int) + 1).toNat = 8 * kd + 1 := ix 1
  have ix2 : (8 * (kd : Int) + 2).toNat = 8 * kd + 2 := ix 2
  have ix3 : (8 * (kd : Int) + 3).toNat = 8 * kd + 3 := ix 3
  have ix4 : (8 * (kd : Int) + 4).toNat = 8 * kd + 4 := ix 4
  have ix5 : (8 * (kd : Int) + 5).toNat = 8 * kd + 5 := ix 5
  have ix6 : (8 * (kd : Int) + 6).toNat = 8 * kd + 6 := ix 6
  have ix7 : (8 * (kd : Int) + 7).toNat = 8 * kd + 7 := ix 7
  have e6 : hbM I a kd h (a 18) (8 * (kd : Int) + 6).toNat = h 6 := by rw [ix6, hbM_at (by decide)]
  refine jC_intro (by decide +kernel) (by simp [jc, va_rf, Value.category]) (Nat.le_of_ble_eq_true rfl) ?_
  refine jJ_aload_n (pc := 0) dX7_tries_0 rfl ?_
  refine jJ_iload_n (pc := 1) dX7_tries_1 rfl ?_
  refine jJ_iload_n (pc := 2) dX7_tries_2 rfl ?_
  refine jJ_iload (pc := 3) dX7_tries_3 rfl ?_
  refine jJ_iload (pc := 5) dX7_tries_5 rfl ?_
  refine jJ_iload (pc := 7) dX7_tries_7 rfl ?_
  refine jJ_iload (pc := 9) dX7_tries_9 rfl ?_
  refine jJ_callVd (pc := 11) (as := [_, _, _, _, _, _]) dX7_tries_11 mX7_245 (jRcv_of hR.1 rfl rfl) (Nat.le_of_ble_eq_true rfl) (jRm_ok (by omega) (by decide)) (x_exceptions (d := d - 1) hR hG' (by omega) (by omega)) ?_
  refine jJ_istore (pc := 14) (ls' := [_, _, _, _, _, _, _, _, _, _, _]) dX7_tries_14 (Nat.le_of_ble_eq_true rfl) rfl ?_
  refine jJ_aload_n (pc := 16) dX7_tries_16 rfl ?_
  refine jJ_getr (pc := 17) dX7_tries_17 fX7_51 rfl hR.1 hR.p17 ?_
  try simp only [e170]
  refine jJ_iconst (pc := 20) dX7_tries_20 (by decide) ?_
  refine jJ_iald (pc := 21) dX7_tries_21 hR.a17 ⟨by omega, by omega⟩ ?_
  try simp only [e170]
  refine jJ_iload_n (pc := 22) dX7_tries_22 rfl ?_
  refine jJ_imul (pc := 23) dX7_tries_23 ⟨by omega, by omega⟩ ?_
  refine jJ_aload_n (pc := 24) dX7_tries_24 rfl ?_
  refine jJ_getr (pc := 25) dX7_tries_25 fX7_51 rfl hR.1 hR.p17 ?_
  try simp only [e171]
  refine jJ_iconst (pc := 28) dX7_tries_28 (by decide) ?_
  refine jJ_iald (pc := 29) dX7_tries_29 hR.a17 ⟨by omega, by omega⟩ ?_
  try simp only [e171]
  refine jJ_iload (pc := 30) dX7_tries_30 rfl ?_
  refine jJ_imul (pc := 32) dX7_tries_32 ⟨by omega, by omega⟩ ?_
  refine jJ_iadd (pc := 33) dX7_tries_33 ⟨by omega, by omega⟩ ?_
  refine jJ_istore (pc := 34) (ls' := [_, _, _, _, _, _, _, _, _, _, _]) dX7_tries_34 (Nat.le_of_ble_eq_true rfl) rfl ?_
  refine jJ_bipush (pc := 36) dX7_tries_36 (by decide) ?_
  refine jJ_iload_n (pc := 38) dX7_tries_38 rfl ?_
  refine jJ_imul (pc := 39) dX7_tries_39 ⟨by omega, by omega⟩ ?_
  refine jJ_istore (pc := 40) (ls' := [_, _, _, _, _, _, _, _, _, _, _]) dX7_tries_40 (Nat.le_of_ble_eq_true rfl) rfl ?_
  rw [hco]
  refine jJ_iload (pc := 42) dX7_tries_42 rfl ?_
  refine jJ_aload_n (pc := 44) dX7_tries_44 rfl ?_
  refine jJ_getr (pc := 45) dX7_tries_45 fX7_54 rfl hR.1 hR.p18 ?_
  try simp only [e6]
  refine jJ_iload (pc := 48) dX7_tries_48 rfl ?_
  refine jJ_bipush (pc := 50) dX7_tries_50 (by decide) ?_
  refine jJ_iadd (pc := 52) dX7_tries_52 ⟨by omega, by omega⟩ ?_
  refine jJ_iald (pc := 53) dX7_tries_53 hR.a18 ⟨by omega, by omega⟩ ?_
  try simp only [e6]
  refine jJ_icmp_lt (pc := 54) (tgt := 58) dX7_tries_54 (by decide) (fun c54 => ?_) (fun c54 => ?_)
  · have ht : tryC F tp xp n x b y c l h = rowC n x b y c l co (F (fex n x b y c l)) := by unfold tryC; rw [hco, if_neg (by omega)]
    rw [ht]
    generalize F (fex n x b y c l) = ex at *
    refine jJ_aload_n (pc := 58) dX7_tries_58 rfl ?_
    refine jJ_getr (pc := 59) dX7_tries_59 fX7_54 rfl hR.1 hR.p18 ?_
    refine jJ_iload (pc := 62) dX7_tries_62 rfl ?_
    refine jJ_iload_n (pc := 64) dX7_tries_64 rfl ?_
    refine jJ_iast (pc := 65) dX7_tries_65 hR.a18 ⟨by omega, by omega⟩ ?_
    rw [ix0, hbM_p (by decide)]
    refine jJ_aload_n (pc := 66) dX7_tries_66 rfl ?_
    refine jJ_getr (pc := 67) dX7_tries_67 fX7_54 rfl hR.1 hR.p18 ?_
    refine jJ_iload (pc := 70) dX7_tries_70 rfl ?_
    refine jJ_iconst (pc := 72) dX7_tries_72 (by decide) ?_
    refine jJ_iadd (pc := 73) dX7_tries_73 ⟨by omega, by omega⟩ ?_
    have s1 : ∀ v, v = (if 0 < n then x else -1) → jJ E yX7_tries.cls cX7_tries 11 none (jRm d) (jZ E (jD none (hbM I a kd (rowC n x b y c l co ex)) P)) 0 0 83 [some (jp m), some (ji (kd : Int)), some (ji n), some (ji x), some (ji b), some (ji y), some (ji c), some (ji l), some (ji ex), some (ji co), some (ji (8 * (kd : Int)))] [ji v, ji (8 * (kd : Int) + 1), jp (a 18)] (hbM I a kd (fun i => if i = 0 then n else h i)) P := by
      intro v hv
      refine jJ_iast (pc := 83) dX7_tries_83 hR.a18 ⟨by omega, by omega⟩ ?_
      rw [ix1, hbM_p (by decide)]
      refine jJ_aload_n (pc := 84) dX7_tries_84 rfl ?_
      refine jJ_getr (pc := 85) dX7_tries_85 fX7_54 rfl hR.1 hR.p18 ?_
      refine jJ_iload (pc := 88) dX7_tries_88 rfl ?_
      refine jJ_iconst (pc := 90) dX7_tries_90 (by decide) ?_
      refine jJ_iadd (pc := 91) dX7_tries_91 ⟨by omega, by omega⟩ ?_
      have s2 : ∀ v2, v2 = (if 0 < n then b else -1) → jJ E yX7_tries.cls cX7_tries 11 none (jRm d) (jZ E (jD none (hbM I a kd (rowC n x b y c l co ex)) P)) 0 0 102 [some (jp m), some (ji (kd : Int)), some (ji n), some (ji x), some (ji b), some (ji y), some (ji c), some (ji l), some (ji ex), some (ji co), some (ji (8 * (kd : Int)))] [ji v2, ji (8 * (kd : Int) + 2), jp (a 18)] (hbM I a kd (fun i => if i = 1 then v else if i = 0 then n else h i)) P := by
        intro v2 hv2
        refine jJ_iast (pc := 102) dX7_tries_102 hR.a18 ⟨by omega, by omega⟩ ?_
        rw [ix2, hbM_p (by decide)]
        refine jJ_aload_n (pc := 103) dX7_tries_103 rfl ?_
        refine jJ_getr (pc := 104) dX7_tries_104 fX7_54 rfl hR.1 hR.p18 ?_
        refine jJ_iload (pc := 107) dX7_tries_107 rfl ?_
        refine jJ_iconst (pc := 109) dX7_tries_109 (by decide) ?_
        refine jJ_iadd (pc := 110) dX7_tries_110 ⟨by omega, by omega⟩ ?_
        have s3 : ∀ v3, v3 = (if 1 < n then y else -1) → jJ E yX7_tries.cls cX7_tries 11 none (jRm d) (jZ E (jD none (hbM I a kd (rowC n x b y c l co ex)) P)) 0 0 122 [some (jp m), some (ji (kd : Int)), some (ji n), some (ji x), some (ji b), some (ji y), some (ji c), some (ji l), some (ji ex), some (ji co), some (ji (8 * (kd : Int)))] [ji v3, ji (8 * (kd : Int) + 3), jp (a 18)] (hbM I a kd (fun i => if i = 2 then v2 else if i = 1 then v else if i = 0 then n else h i)) P := by
          intro v3 hv3
          refine jJ_iast (pc := 122) dX7_tries_122 hR.a18 ⟨by omega, by omega⟩ ?_
          rw [ix3, hbM_p (by decide)]
          refine jJ_aload_n (pc := 123) dX7_tries_123 rfl ?_
          refine jJ_getr (pc := 124) dX7_tries_124 fX7_54 rfl hR.1 hR.p18 ?_
          refine jJ_iload (pc := 127) dX7_tries_127 rfl ?_
          refine jJ_iconst (pc := 129) dX7_tries_129 (by decide) ?_
          refine jJ_iadd (pc := 130) dX7_tries_130 ⟨by omega, by omega⟩ ?_
          have s4 : ∀ v4, v4 = (if 1 < n then c else -1) → jJ E yX7_tries.cls cX7_tries 11 none (jRm d) (jZ E (jD none (hbM I a kd (rowC n x b y c l co ex)) P)) 0 0 142 [some (jp m), some (ji (kd : Int)), some (ji n), some (ji x), some (ji b), some (ji y), some (ji c), some (ji l), some (ji ex), some (ji co), some (ji (8 * (kd : Int)))] [ji v4, ji (8 * (kd : Int) + 4), jp (a 18)] (hbM I a kd (fun i => if i = 3 then v3 else if i = 2 then v2 else if i = 1 then v else if i = 0 then n else h i)) P := by
            intro v4 hv4
            refine jJ_iast (pc := 142) dX7_tries_142 hR.a18 ⟨by omega, by omega⟩ ?_
            rw [ix4, hbM_p (by decide)]
            refine jJ_aload_n (pc := 143) dX7_tries_143 rfl ?_
            refine jJ_getr (pc := 144) dX7_tries_144 fX7_54 rfl hR.1 hR.p18 ?_
            refine jJ_iload (pc := 147) dX7_tries_147 rfl ?_
            refine jJ_iconst (pc := 149) dX7_tries_149 (by decide) ?_
            refine jJ_iadd (pc := 150) dX7_tries_150 ⟨by omega, by omega⟩ ?_
            refine jJ_iload (pc := 151) dX7_tries_151 rfl ?_
            refine jJ_iast (pc := 153) dX7_tries_153 hR.a18 ⟨by omega, by omega⟩ ?_
            rw [ix5, hbM_p (by decide)]
            refine jJ_aload_n (pc := 154) dX7_tries_154 rfl ?_
            refine jJ_getr (pc := 155) dX7_tries_155 fX7_54 rfl hR.1 hR.p18 ?_
            refine jJ_iload (pc := 158) dX7_tries_158 rfl ?_
            refine jJ_bipush (pc := 160) dX7_tries_160 (by decide) ?_
            refine jJ_iadd (pc := 162) dX7_tries_162 ⟨by omega, by omega⟩ ?_
            refine jJ_iload (pc := 163) dX7_tries_163 rfl ?_
            refine jJ_iast (pc := 165) dX7_tries_165 hR.a18 ⟨by omega, by omega⟩ ?_
            rw [ix6, hbM_p (by decide)]
            refine jJ_aload_n (pc := 166) dX7_tries_166 rfl ?_
            refine jJ_getr (pc := 167) dX7_tries_167 fX7_54 rfl hR.1 hR.p18 ?_
            refine jJ_iload (pc := 170) dX7_tries_170 rfl ?_
            refine jJ_bipush (pc := 172) dX7_tries_172 (by decide) ?_
            refine jJ_iadd (pc := 174) dX7_tries_174 ⟨by omega, by omega⟩ ?_
            refine jJ_iload (pc := 175) dX7_tries_175 rfl ?_
            refine jJ_iast (pc := 177) dX7_tries_177 hR.a18 ⟨by omega, by omega⟩ ?_
            rw [ix7, hbM_p (by decide)]
            refine jJ_vret (pc := 178) dX7_tries_178 rfl ?_
            refine ⟨rfl, hbM_ext (fun k hk => ?_), rfl⟩
            have q : k = 0 ∨ k = 1 ∨ k = 2 ∨ k = 3 ∨ k = 4 ∨ k = 5 ∨ k = 6 ∨ k = 7 := by omega
            rcases q with rfl | rfl | rfl | rfl | rfl | rfl | rfl | rfl
            · rfl
            · exact hv
            · exact hv2
            · exact hv3
            · exact hv4
            · rfl
            · rfl
            · rfl
          refine jJ_iload_n (pc := 131) dX7_tries_131 rfl ?_
          refine jJ_iconst (pc := 132) dX7_tries_132 (by decide) ?_
          refine jJ_icmp_le (pc := 133) (tgt := 141) dX7_tries_133 (by decide) (fun c133 => ?_) (fun c133 => ?_)
          · refine jJ_iconst (pc := 141) dX7_tries_141 (by decide) ?_
            exact s4 (-1) (by rw [if_neg (by omega)])
          · refine jJ_iload (pc := 136) dX7_tries_136 rfl ?_
            refine jJ_goto (pc := 138) (tgt := 142) dX7_tries_138 (by decide) ?_
            exact s4 c (by rw [if_pos (by omega)])
        refine jJ_iload_n (pc := 111) dX7_tries_111 rfl ?_
        refine jJ_iconst (pc := 112) dX7_tries_112 (by decide) ?_
        refine jJ_icmp_le (pc := 113) (tgt := 121) dX7_tries_113 (by decide) (fun c113 => ?_) (fun c113 => ?_)
        · refine jJ_iconst (pc := 121) dX7_tries_121 (by decide) ?_
          exact s3 (-1) (by rw [if_neg (by omega)])
        · refine jJ_iload (pc := 116) dX7_tries_116 rfl ?_
          refine jJ_goto (pc := 118) (tgt := 122) dX7_tries_118 (by decide) ?_
          exact s3 y (by rw [if_pos (by omega)])
      refine jJ_iload_n (pc := 92) dX7_tries_92 rfl ?_
      refine jJ_if_le (pc := 93) (tgt := 101) dX7_tries_93 (by decide) (fun c93 => ?_) (fun c93 => ?_)
      · refine jJ_iconst (pc := 101) dX7_tries_101 (by decide) ?_
        exact s2 (-1) (by rw [if_neg (by omega)])
      · refine jJ_iload (pc := 96) dX7_tries_96 rfl ?_
        refine jJ_goto (pc := 98) (tgt := 102) dX7_tries_98 (by decide) ?_
        exact s2 b (by rw [if_pos (by omega)])
    refine jJ_iload_n (pc := 74) dX7_tries_74 rfl ?_
    refine jJ_if_le (pc := 75) (tgt := 82) dX7_tries_75 (by decide) (fun c75 => ?_) (fun c75 => ?_)
    · refine jJ_iconst (pc := 82) dX7_tries_82 (by decide) ?_
      exact s1 (-1) (by rw [if_neg (by omega)])
    · refine jJ_iload_n (pc := 78) dX7_tries_78 rfl ?_
      refine jJ_goto (pc := 79) (tgt := 83) dX7_tries_79 (by decide) ?_
      exact s1 x (by rw [if_pos (by omega)])
  · refine jJ_vret (pc := 57) dX7_tries_57 rfl ?_
    exact ⟨rfl, by unfold tryC; rw [hco, if_pos (by omega)], rfl⟩
end JRG2
