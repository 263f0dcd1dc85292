theorem cst_far : Cond.constant RX7 252 (Int32.ofInt 1000000000) ∈ jT := jT_mem (tb_5 (List.mem_of_getElem? (i := 211) (by decide +kernel))) rfl
section JRI4
variable {E : jE} {I : jI} {P : jP} {d m : Nat} {a : Nat → Nat}
theorem sG_one (x : TX) (kd : Int) : ∀ (k i : Nat), 0 ≤ sG (fun _ _ _ => 1) x kd i k ∧ sG (fun _ _ _ => 1) x kd i k ≤ k
  | 0, i => by simp [sG]
  | k + 1, i => by
    have := sG_one x kd k (i + 1)
    simp only [sG]
    split <;> omega
theorem sT_one {th : Nat → Int} {X : Nat → TX} {kd : Int} (h : ∀ t, t < 12 → th t ≠ 0 → (xT (X t)).length ≤ 200) : ∀ (k t : Nat), t + k ≤ 12 → sT (fun _ _ _ => 1) th X kd t k ≤ 199 * k
  | 0, t, _ => by simp [sT]
  | k + 1, t, ht => by
    have ih := sT_one (kd := kd) h k (t + 1) (by omega)
    simp only [sT]
    by_cases q : th t ≠ 0
    · rw [if_pos q]
      have h1 := (sG_one (X t) kd ((xT (X t)).length - 1) 0).2
      have h2 := h t (by omega) q
      omega
    · rw [if_neg q]; omega
/-- the sums over the gaps of a kind -/
def sK (I : jI) (a : Nat → Nat) (X : Nat → TX) (kd : Nat) : (Int → Int → Int → Int) → Int := fun f => sT f (I (a 5)) X (kd : Int) 0 12
theorem brF_r {F : (Int → Int → Int → Int) → Int} {tp xp : Int} {h : Nat → Int} (hF : ∀ n x b y c l, 0 ≤ F (fex n x b y c l) ∧ F (fex n x b y c l) ≤ 2388) (htp : 0 ≤ tp ∧ tp ≤ 100) (hxp : 0 ≤ xp ∧ xp ≤ 100) (h6 : h 6 = 1000000000) : 0 ≤ brF F tp xp h 6 ∧ brF F tp xp h 6 ≤ 240000 := by
  have pm : ∀ n x b y c l : Int, 0 ≤ xp * F (fex n x b y c l) ∧ xp * F (fex n x b y c l) ≤ 238800 := fun n x b y c l => by
    refine ⟨Int.mul_nonneg hxp.1 (hF n x b y c l).1, ?_⟩
    have : xp * F (fex n x b y c l) ≤ 100 * 2388 := Int.mul_le_mul hxp.2 (hF n x b y c l).2 (hF n x b y c l).1 (by decide)
    omega
  have st : ∀ (n x b y c l : Int) (h : Nat → Int), (n = 0 ∨ n = 1 ∨ n = 2) → 0 ≤ h 6 ∧ h 6 ≤ 240000 → 0 ≤ tryC F tp xp n x b y c l h 6 ∧ tryC F tp xp n x b y c l h 6 ≤ 240000 := fun n x b y c l h hn hh => by
    have h1 := tryC_6 (tp := tp) (xp := xp) (n := n) (x := x) (b := b) (y := y) (c := c) (l := l) (h := h) (F := F)
    refine ⟨?_, by omega⟩
    unfold tryC
    split
    · exact hh.1
    · show 0 ≤ tp * n + xp * F (fex n x b y c l)
      have := pm n x b y c l
      rcases hn with rfl | rfl | rfl <;> omega
  have f0 : 0 ≤ br0 F tp xp h 6 ∧ br0 F tp xp h 6 ≤ 240000 := by
    unfold br0
    rw [itF]
    refine itF_ind (Pr := fun _ h => 0 ≤ h 6 ∧ h 6 ≤ 240000) 2 1 _ ?_ (fun j h _ _ hh => st 0 0 0 0 0 (j : Int) h (Or.inl rfl) hh)
    have := pm 0 0 0 0 0 ((0 : Nat) : Int)
    unfold tryC
    rw [if_neg (by rw [h6]; omega)]
    show 0 ≤ tp * 0 + xp * F (fex 0 0 0 0 0 ((0 : Nat) : Int)) ∧ tp * 0 + xp * F (fex 0 0 0 0 0 ((0 : Nat) : Int)) ≤ 240000
    omega
  have f1 : ∀ h : Nat → Int, 0 ≤ h 6 ∧ h 6 ≤ 240000 → 0 ≤ br1 F tp xp h 6 ∧ br1 F tp xp h 6 ≤ 240000 := fun h hh => by
    unfold br1
    refine itF_ind (Pr := fun _ h => 0 ≤ h 6 ∧ h 6 ≤ 240000) 10 0 _ hh (fun x h _ _ hh => ?_)
    refine itF_ind (Pr := fun _ h => 0 ≤ h 6 ∧ h 6 ≤ 240000) 3 0 _ hh (fun b h _ _ hh => ?_)
    exact itF_ind (Pr := fun _ h => 0 ≤ h 6 ∧ h 6 ≤ 240000) 3 0 _ hh (fun l h _ _ hh => st 1 (x : Int) (b : Int) 0 0 (l : Int) h (Or.inr (Or.inl rfl)) hh)
  have f2 : ∀ h : Nat → Int, 0 ≤ h 6 ∧ h 6 ≤ 240000 → 0 ≤ br2 F tp xp h 6 ∧ br2 F tp xp h 6 ≤ 240000 := fun h hh => by
    unfold br2
    refine itF_ind (Pr := fun _ h => 0 ≤ h 6 ∧ h 6 ≤ 240000) 10 0 _ hh (fun x h _ _ hh => ?_)
    refine itF_ind (Pr := fun _ h => 0 ≤ h 6 ∧ h 6 ≤ 240000) 3 0 _ hh (fun b h _ _ hh => ?_)
    refine itF_ind (Pr := fun _ h => 0 ≤ h 6 ∧ h 6 ≤ 240000) 10 0 _ hh (fun y h _ _ hh => ?_)
    show 0 ≤ (if y = x then h else itF (fun c => itF (fun l => tryC F tp xp 2 (x : Int) (b : Int) (y : Int) (c : Int) (l : Int)) 3 0) 3 0 h) 6 ∧ (if y = x then h else itF (fun c => itF (fun l => tryC F tp xp 2 (x : Int) (b : Int) (y : Int) (c : Int) (l : Int)) 3 0) 3 0 h) 6 ≤ 240000
    split
    · exact hh
    · refine itF_ind (Pr := fun _ h => 0 ≤ h 6 ∧ h 6 ≤ 240000) 3 0 _ hh (fun c h _ _ hh => ?_)
      exact itF_ind (Pr := fun _ h => 0 ≤ h 6 ∧ h 6 ≤ 240000) 3 0 _ hh (fun l h _ _ hh => st 2 (x : Int) (b : Int) (y : Int) (c : Int) (l : Int) h (Or.inr (Or.inr rfl)) hh)
  exact f2 _ (f1 _ f0)
/-- the sum of the costs of the first k kinds -/
def sS (S : Nat → Nat → Int) : Nat → Int
  | 0 => 0
  | k + 1 => sS S k + S k 6
theorem sS_cg {S S' : Nat → Nat → Int} : ∀ k, (∀ j, j < k → S j 6 = S' j 6) → sS S k = sS S' k
  | 0, _ => rfl
  | k + 1, h => by simp only [sS]; rw [sS_cg k (fun j hj => h j (by omega)), h k (by omega)]
theorem find_lp {X : Nat → TX} {tp xp : Int} (hR : RfL E P m a) (hX : RTs I a X) (htp : I (a 17) 0 = tp ∧ 0 ≤ tp ∧ tp ≤ 100) (hxp : I (a 17) 1 = xp ∧ 0 ≤ xp ∧ xp ≤ 100) (hd : 4 ≤ d) :
    ∀ (r kd : Nat) (S : Nat → Nat → Int) (J : jI) (z3 z4 z5 z6 z7 : Option jV), kd + r = 16 → fF I m a J → (∀ k j, k < kd → j < 8 → J (a 18) (8 * k + j) = S k j) → (∀ k, k < kd → ∃ h : Nat → Int, h 6 = 1000000000 ∧ ∀ j, j < 8 → S k j = brF (sK I a X k) tp xp h j) → (0 ≤ sS S kd ∧ sS S kd ≤ 240000 * kd) → jJ E yX7_find.cls cX7_find 8 (some .int) (jRm d) (jZ E (fun v I' P' => P' = P ∧ ∃ S : Nat → Nat → Int, v = some (ji (sS S 16)) ∧ (∀ k j, k < 16 → j < 8 → I' (a 18) (8 * k + j) = S k j) ∧ (∀ k, k < 16 → ∃ h : Nat → Int, h 6 = 1000000000 ∧ ∀ j, j < 8 → S k j = brF (sK I a X k) tp xp h j) ∧ (∀ b, b ≠ m → b ≠ a 18 → b ≠ a 28 → b ≠ a 29 → b ≠ a 30 → I' b = I b) ∧ (∀ k, k ≠ 31 → k ≠ 16 → I' m k = I m k) ∧ I' m 16 = 1)) 0 0 9 [some (jp m), some (ji (sS S kd)), some (ji (kd : Int)), z3, z4, z5, z6, z7] [] J P := by
  intro r
  induction r with
  | zero =>
    intro kd S J z3 z4 z5 z6 z7 hk hJ hS hB hs
    have e : kd = 16 := by omega
    subst e
    refine jJ_iload_n (pc := 9) dX7_find_9 rfl ?_
    refine jJ_bipush (pc := 10) dX7_find_10 (by decide) ?_
    refine jJ_icmp_ge (pc := 12) (tgt := 232) dX7_find_12 (by decide) (fun c12 => ?_) (fun c12 => ?_)
    · refine jJ_aload_n (pc := 232) dX7_find_232 rfl ?_
      refine jJ_iconst (pc := 233) dX7_find_233 (by decide) ?_
      refine jJ_puti (pc := 234) dX7_find_234 fX7_257w rfl ⟨by decide, by decide⟩ hR.1 ?_
      refine jJ_iload_n (pc := 237) dX7_find_237 rfl ?_
      refine jJ_iret (pc := 238) dX7_find_238 rfl ?_
      refine ⟨rfl, S, rfl, fun k j h1 h2 => by rw [jput_a _ hR.n18]; exact hS k j h1 h2, hB, fun b h1 h2 h3 h4 h5 => ?_, fun k h1 h2 => ?_, jput_s _ _ _ _⟩
      · rw [← hJ.1 b h1 h2 h3 h4 h5]; funext j; exact jput_a _ h1
      · rw [jput_k _ h2]; exact hJ.2 k h1
    · exfalso
      omega
  | succ r ih =>
    intro kd S J z3 z4 z5 z6 z7 hk hJ hS hB hs
    have hXJ := hJ.rts hR hX
    have e5 : J (a 5) = I (a 5) := hJ.row hR (by decide) (by decide)
    refine jJ_iload_n (pc := 9) dX7_find_9 rfl ?_
    refine jJ_bipush (pc := 10) dX7_find_10 (by decide) ?_
    refine jJ_icmp_ge (pc := 12) (tgt := 232) dX7_find_12 (by decide) (fun c12 => ?_) (fun c12 => ?_)
    · exfalso
      omega
    · refine jJ_aload_n (pc := 15) dX7_find_15 rfl ?_
      refine jJ_iload_n (pc := 16) dX7_find_16 rfl ?_
      refine jJ_callV (pc := 17) (as := [_]) dX7_find_17 mX7_249 (jRcv_of hR.1 rfl rfl) (Nat.le_of_ble_eq_true rfl) (jRm_ok (by omega) (by decide)) (x_gathers (d := d - 1) hR hXJ (by omega)) ?_
      rintro v J1 P1 ⟨hP1, rfl, f1, hG⟩
      rw [hP1]
      rw [e5] at hG
      have hG' : GI J1 m a 2388 (sK I a X kd) := hG
      have hF1 : sK I a X kd (fun _ _ _ => 1) ≤ 2388 := by
        have := sT_one (th := I (a 5)) (X := X) (kd := (kd : Int)) (fun t ht h5 => (hX t ht h5).2.2.2.2.1) 12 0 (by omega)
        exact this
      have hFx : ∀ n x b y c l, 0 ≤ sK I a X kd (fex n x b y c l) ∧ sK I a X kd (fex n x b y c l) ≤ 2388 := fun n x b y c l => by
        obtain ⟨K, g1, g2, g3, g4⟩ := hG'
        have h1 := grp_r (J := J1) (a := a) (B := (2388 : Nat)) (fex_01 n x b y c l) K g3
        have h2 := grp_le1 (J := J1) (a := a) (fex_01 n x b y c l) K (fun k hk => (g3 k hk).1)
        rw [g4, g4] at h2
        rw [g4] at h1
        omega
      have hJ1 : fF I m a J1 := ⟨fun b h1 h2 h3 h4 h5 => (f1.1 b h1 h3 h4 h5).trans (hJ.1 b h1 h2 h3 h4 h5), fun k h1 => (f1.2 k h1).trans (hJ.2 k h1)⟩
      have e17 : J1 (a 17) = I (a 17) := hJ1.row hR (by decide) (by decide)
      have e18 : J1 (a 18) = J (a 18) := f1.row hR (by decide) (by decide)
      have htp1 : J1 (a 17) 0 = tp ∧ 0 ≤ tp ∧ tp ≤ 100 := by rw [e17]; exact htp
      have hxp1 : J1 (a 17) 1 = xp ∧ 0 ≤ xp ∧ xp ≤ 100 := by rw [e17]; exact hxp
      refine jJ_aload_n (pc := 20) dX7_find_20 rfl ?_
      refine jJ_getr (pc := 21) dX7_find_21 fX7_54 rfl hR.1 hR.p18 ?_
      refine jJ_bipush (pc := 24) dX7_find_24 (by decide) ?_
      refine jJ_iload_n (pc := 26) dX7_find_26 rfl ?_
      refine jJ_imul (pc := 27) dX7_find_27 ⟨by omega, by omega⟩ ?_
      refine jJ_bipush (pc := 28) dX7_find_28 (by decide) ?_
      refine jJ_iadd (pc := 30) dX7_find_30 ⟨by omega, by omega⟩ ?_
      refine jJ_ldc (pc := 31) (n := 1000000000) dX7_find_31 ⟨cst_far, by decide⟩ ?_
      refine jJ_iast (pc := 33) dX7_find_33 hR.a18 ⟨by omega, by omega⟩ ?_
      obtain ⟨h0, hh0⟩ : ∃ h0 : Nat → Int, h0 = fun j => if j = 6 then 1000000000 else J1 (a 18) (8 * kd + j) := ⟨_, rfl⟩
      have h06 : h0 6 = 1000000000 := by rw [hh0]; rfl
      refine jJ_I (show _ = hbM J1 a kd h0 from ?_) ?_
      · rw [show (8 * (kd : Int) + 6).toNat = 8 * kd + 6 by omega, hh0]
        funext b j
        simp only [jput, hbM]
        by_cases q : b = a 18
        · subst q
          by_cases q6 : j = 8 * kd + 6
          · subst q6
            simp
          · simp only [true_and, q6, if_false]
            by_cases q8 : 8 * kd ≤ j ∧ j < 8 * kd + 8
            · rw [if_pos q8, if_neg (by omega), show 8 * kd + (j - 8 * kd) = j by omega]
            · rw [if_neg q8]
        · simp [q]
      refine jJ_iconst (pc := 34) dX7_find_34 (by decide) ?_
      refine jJ_istore_n (pc := 35) (ls' := [_, _, _, _, _, _, _, _]) dX7_find_35 (Nat.le_of_ble_eq_true rfl) rfl ?_
      refine fd_0 hR hG' hF1 (by omega) htp1 hxp1 (by omega) 3 0 h0 (by omega) (fun z => ?_)
      refine jJ_iconst (pc := 58) dX7_find_58 (by decide) ?_
      refine jJ_istore_n (pc := 59) (ls' := [_, _, _, _, _, _, _, _]) dX7_find_59 (Nat.le_of_ble_eq_true rfl) rfl ?_
      refine fd_1 hR hG' hF1 (by omega) htp1 hxp1 (by omega) 10 0 _ _ _ (by omega) (fun z z4 z5 => ?_)
      refine jJ_iconst (pc := 115) dX7_find_115 (by decide) ?_
      refine jJ_istore_n (pc := 116) (ls' := [_, _, _, _, _, _, _, _]) dX7_find_116 (Nat.le_of_ble_eq_true rfl) rfl ?_
      refine fd_2 hR hG' hF1 (by omega) htp1 hxp1 (by omega) 10 0 _ _ _ _ _ (by omega) (fun z z4 z5 z6 z7 => ?_)
      have hbr := brF_r (F := sK I a X kd) (h := h0) hFx htp.2 hxp.2 h06
      refine jJ_I (show _ = hbM J1 a kd (brF (sK I a X kd) tp xp h0) from rfl) ?_
      have e6 : hbM J1 a kd (brF (sK I a X kd) tp xp h0) (a 18) (8 * (kd : Int) + 6).toNat = brF (sK I a X kd) tp xp h0 6 := by rw [show (8 * (kd : Int) + 6).toNat = 8 * kd + 6 by omega, hbM_at (by decide)]
      refine jJ_iload_n (pc := 211) dX7_find_211 rfl ?_
      refine jJ_aload_n (pc := 212) dX7_find_212 rfl ?_
      refine jJ_getr (pc := 213) dX7_find_213 fX7_54 rfl hR.1 hR.p18 ?_
      try simp only [e6]
      refine jJ_bipush (pc := 216) dX7_find_216 (by decide) ?_
      refine jJ_iload_n (pc := 218) dX7_find_218 rfl ?_
      refine jJ_imul (pc := 219) dX7_find_219 ⟨by omega, by omega⟩ ?_
      refine jJ_bipush (pc := 220) dX7_find_220 (by decide) ?_
      refine jJ_iadd (pc := 222) dX7_find_222 ⟨by omega, by omega⟩ ?_
      refine jJ_iald (pc := 223) dX7_find_223 hR.a18 ⟨by omega, by omega⟩ ?_
      try simp only [e6]
      refine jJ_iadd (pc := 224) dX7_find_224 ⟨by omega, by omega⟩ ?_
      refine jJ_istore_n (pc := 225) (ls' := [_, _, _, _, _, _, _, _]) dX7_find_225 (Nat.le_of_ble_eq_true rfl) rfl ?_
      refine jJ_iinc (pc := 226) (ls' := [_, _, _, _, _, _, _, _]) dX7_find_226 rfl ⟨by omega, by omega⟩ rfl ?_
      refine jJ_goto (pc := 229) (tgt := 9) dX7_find_229 (by decide) ?_
      obtain ⟨S', hS'⟩ : ∃ S' : Nat → Nat → Int, S' = fun k j => if k = kd then brF (sK I a X kd) tp xp h0 j else S k j := ⟨_, rfl⟩
      have hS1 : ∀ k j, k < kd → S' k j = S k j := fun k j h => by rw [hS']; exact if_neg (by omega)
      have hS2 : ∀ j, S' kd j = brF (sK I a X kd) tp xp h0 j := fun j => by rw [hS']; exact if_pos rfl
      have es : sS S kd + brF (sK I a X kd) tp xp h0 6 = sS S' (kd + 1) := by
        simp only [sS]
        rw [sS_cg kd (fun j hj => hS1 j 6 hj), hS2]
      have k := ih (kd + 1) S' (hbM J1 a kd (brF (sK I a X kd) tp xp h0)) z z4 z5 z6 z7 (by omega) ⟨fun b h1 h2 h3 h4 h5 => by rw [hbM_x h2]; exact hJ1.1 b h1 h2 h3 h4 h5, fun k h1 => by rw [hbM_x (Ne.symm hR.n18)]; exact hJ1.2 k h1⟩ ?_ ?_ (by rw [← es]; omega)
      · rw [← es] at k
        exact k
      · intro k j h1 h2
        by_cases q : k = kd
        · subst q; rw [hbM_at h2, hS2]
        · rw [hS1 k j (by omega)]
          unfold hbM
          rw [if_neg (by omega), e18]
          exact hS k j (by omega) h2
      · intro k h1
        by_cases q : k = kd
        · subst q; exact ⟨h0, h06, fun j _ => hS2 j⟩
        · obtain ⟨h, p1, p2⟩ := hB k (by omega)
          exact ⟨h, p1, fun j hj => by rw [hS1 k j (by omega)]; exact p2 j hj⟩
theorem r_find {X : Nat → TX} {tp xp : Int} (hR : RfL E P m a) (hX : RTs I a X) (htp : I (a 17) 0 = tp ∧ 0 ≤ tp ∧ tp ≤ 100) (hxp : I (a 17) 1 = xp ∧ 0 ≤ xp ∧ xp ≤ 100) (hd : 4 ≤ d) :
    jC E yX7_find cX7_find 8 (some .int) d [jp m] I P (fun v I' P' => P' = P ∧ ∃ S : Nat → Nat → Int, v = some (ji (sS S 16)) ∧ (∀ k j, k < 16 → j < 8 → I' (a 18) (8 * k + j) = S k j) ∧ (∀ k, k < 16 → ∃ h : Nat → Int, h 6 = 1000000000 ∧ ∀ j, j < 8 → S k j = brF (sK I a X k) tp xp h j) ∧ (∀ b, b ≠ m → b ≠ a 18 → b ≠ a 28 → b ≠ a 29 → b ≠ a 30 → I' b = I b) ∧ (∀ k, k ≠ 0 → k ≠ 31 → k ≠ 16 → I' m k = I m k) ∧ I' m 0 = 0 ∧ I' m 16 = 1) := by
  have e17 : jput I m 0 0 (a 17) = I (a 17) := jput_row hR.n17
  have e5 : jput I m 0 0 (a 5) = I (a 5) := jput_row hR.n5
  refine jC_intro (by decide +kernel) (by simp [jc, va_rf, Value.category]) (Nat.le_of_ble_eq_true rfl) ?_
  refine jJ_aload_n (pc := 0) dX7_find_0 rfl ?_
  refine jJ_iconst (pc := 1) dX7_find_1 (by decide) ?_
  refine jJ_puti (pc := 2) dX7_find_2 fX7_78w rfl ⟨rfl, rfl⟩ hR.1 ?_
  refine jJ_iconst (pc := 5) dX7_find_5 (by decide) ?_
  refine jJ_istore_n (pc := 6) (ls' := [_, _, _, _, _, _, _, _]) dX7_find_6 (Nat.le_of_ble_eq_true rfl) rfl ?_
  refine jJ_iconst (pc := 7) dX7_find_7 (by decide) ?_
  refine jJ_istore_n (pc := 8) (ls' := [_, _, _, _, _, _, _, _]) dX7_find_8 (Nat.le_of_ble_eq_true rfl) rfl ?_
  refine jJ_mono (find_lp (I := jput I m 0 0) (tp := tp) (xp := xp) hR (hX.pm hR) (by rw [e17]; exact htp) (by rw [e17]; exact hxp) hd 16 0 (fun _ _ => 0) (jput I m 0 0) none none none none none (by omega) ⟨fun _ _ _ _ _ _ => rfl, fun _ _ => rfl⟩ (fun k j h => absurd h (by omega)) (fun k h => absurd h (by omega)) (by decide)) ?_
  rintro v I' P' ⟨hP, S, q1, q2, q3, q4, q5, q6⟩
  refine ⟨hP, S, q1, q2, fun k hk => ?_, fun b h1 h2 h3 h4 h5 => (q4 b h1 h2 h3 h4 h5).trans (jput_row h1), fun k h1 h2 h3 => by rw [q5 k h2 h3, jput_k _ h1], by rw [q5 0 (by decide) (by decide), jput_s], q6⟩
  obtain ⟨h, p1, p2⟩ := q3 k hk
  refine ⟨h, p1, fun j hj => (p2 j hj).trans ?_⟩
  have : sK (jput I m 0 0) a X k = sK I a X k := by unfold sK; rw [e5]
  rw [this]
end JRI4
