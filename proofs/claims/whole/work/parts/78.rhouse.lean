section JRH
variable {E : jE} {I : jI} {P : jP} {d m t i : Nat} {a : Nat → Nat} {x : TX}
/-- by how many more NAMES of the k from i on are of the make 0 than of the make 1 -/
def hdX (x : TX) (i k : Nat) : Int := cntMd (xNm x) (xSg x) 0 i k - cntMd (xNm x) (xSg x) 1 i k
theorem house_in {n : Nat} (hR : RfL E P m a) (hT : RT I a t x) (hW : WX x) (h5 : I (a 5) t ≠ 0) (ht : t < 12) (hn : n = (xT x).length) (hd : 6 ≤ d) {Z : Code → List Frame → Array Value → State → State → Prop} :
    ∀ (k i : Nat) (c : Int) (J : jI), i + k = n → -100000 ≤ c + i → c ≤ 100000 + i → mF I m a J → (∀ J' z, mF I m a J' → jJ E yX7_house.cls cX7_house 4 (some .int) (jRm d) Z 0 0 80 [some (jp m), some (ji (c + hdX x i k)), some (ji (t : Int)), z] [] J' P) → jJ E yX7_house.cls cX7_house 4 (some .int) (jRm d) Z 0 0 17 [some (jp m), some (ji c), some (ji (t : Int)), some (ji (i : Int))] [] J P := by
  have hl := hW.2.2.2.1
  intro k
  induction k with
  | zero =>
    intro i c J hi h1 h2 hJ kk
    have e9 : J (a 9) ((t : Int).toNat) = ((xT x).length : Int) := by rw [Int.toNat_natCast]; exact (hJ.rt hR hT).2.2.1
    have e5 : J (a 5) ((t : Int).toNat) ≠ 0 := by rw [Int.toNat_natCast, hJ.row hR (by decide) (by decide) (by decide)]; exact h5
    refine jJ_aload_n (pc := 17) dX7_house_17 rfl ?_
    refine jJ_getr (pc := 18) dX7_house_18 fX7_17 rfl hR.1 hR.p5 ?_
    refine jJ_iload_n (pc := 21) dX7_house_21 rfl ?_
    refine jJ_zald (pc := 22) dX7_house_22 hR.a5 ⟨by omega, by omega⟩ ?_
    refine jJ_if_eq (pc := 23) (tgt := 80) dX7_house_23 (by decide) (fun c23 => ?_) (fun c23 => ?_)
    · exact absurd c23 e5
    · refine jJ_iload_n (pc := 26) dX7_house_26 rfl ?_
      refine jJ_aload_n (pc := 27) dX7_house_27 rfl ?_
      refine jJ_getr (pc := 28) dX7_house_28 fX7_30 rfl hR.1 hR.p9 ?_
      try simp only [e9]
      refine jJ_iload_n (pc := 31) dX7_house_31 rfl ?_
      refine jJ_iald (pc := 32) dX7_house_32 hR.a9 ⟨by omega, by omega⟩ ?_
      try simp only [e9]
      refine jJ_icmp_ge (pc := 33) (tgt := 80) dX7_house_33 (by decide) (fun c33 => ?_) (fun c33 => ?_)
      · have := kk J (some (ji (i : Int))) hJ
        rw [hdX, cntMd, cntMd, Int.sub_self, Int.add_zero] at this
        exact this
      · exfalso
        omega
  | succ k ih =>
    intro i c J hi h1 h2 hJ kk
    have hT' := hJ.rt hR hT
    have e9 : J (a 9) ((t : Int).toNat) = ((xT x).length : Int) := by rw [Int.toNat_natCast]; exact hT'.2.2.1
    have e5 : J (a 5) ((t : Int).toNat) ≠ 0 := by rw [Int.toNat_natCast, hJ.row hR (by decide) (by decide) (by decide)]; exact h5
    obtain ⟨b0, hb0⟩ : ∃ b0 : Int, b0 = (if xSg x i = 1 ∧ 1 < (made 0 (xNm x i)).2 ∧ (made 0 (xNm x i)).1 = xNm x i then 1 else 0) := ⟨_, rfl⟩
    obtain ⟨b1, hb1⟩ : ∃ b1 : Int, b1 = (if xSg x i = 1 ∧ 1 < (made 1 (xNm x i)).2 ∧ (made 1 (xNm x i)).1 = xNm x i then 1 else 0) := ⟨_, rfl⟩
    have nx : ∀ (c' : Int) (J' : jI), mF I m a J' → c' = c + (b0 - b1) → jJ E yX7_house.cls cX7_house 4 (some .int) (jRm d) Z 0 0 74 [some (jp m), some (ji c'), some (ji (t : Int)), some (ji (i : Int))] [] J' P := by
      intro c' J' hJ' hc'
      have hc2 : c - 1 ≤ c' ∧ c' ≤ c + 1 := by rw [hc', hb0, hb1]; split <;> split <;> omega
      refine jJ_iinc (pc := 74) (ls' := [_, _, _, _]) dX7_house_74 rfl ⟨by omega, by omega⟩ rfl ?_
      refine jJ_goto (pc := 77) (tgt := 17) dX7_house_77 (by decide) ?_
      refine ih (i + 1) c' J' (by omega) (by omega) (by omega) hJ' (fun J2 z h2 => ?_)
      have := kk J2 z h2
      rw [show c + hdX x i (k + 1) = c' + hdX x (i + 1) k by rw [hc']; unfold hdX; simp only [cntMd]; rw [← hb0, ← hb1]; omega] at this
      exact this
    refine jJ_aload_n (pc := 17) dX7_house_17 rfl ?_
    refine jJ_getr (pc := 18) dX7_house_18 fX7_17 rfl hR.1 hR.p5 ?_
    refine jJ_iload_n (pc := 21) dX7_house_21 rfl ?_
    refine jJ_zald (pc := 22) dX7_house_22 hR.a5 ⟨by omega, by omega⟩ ?_
    refine jJ_if_eq (pc := 23) (tgt := 80) dX7_house_23 (by decide) (fun c23 => ?_) (fun c23 => ?_)
    · exact absurd c23 e5
    · refine jJ_iload_n (pc := 26) dX7_house_26 rfl ?_
      refine jJ_aload_n (pc := 27) dX7_house_27 rfl ?_
      refine jJ_getr (pc := 28) dX7_house_28 fX7_30 rfl hR.1 hR.p9 ?_
      try simp only [e9]
      refine jJ_iload_n (pc := 31) dX7_house_31 rfl ?_
      refine jJ_iald (pc := 32) dX7_house_32 hR.a9 ⟨by omega, by omega⟩ ?_
      try simp only [e9]
      refine jJ_icmp_ge (pc := 33) (tgt := 80) dX7_house_33 (by decide) (fun c33 => ?_) (fun c33 => ?_)
      · exfalso
        omega
      · refine jJ_aload_n (pc := 36) dX7_house_36 rfl ?_
        refine jJ_iload_n (pc := 37) dX7_house_37 rfl ?_
        refine jJ_iload_n (pc := 38) dX7_house_38 rfl ?_
        refine jJ_callVd (pc := 39) (as := [_, _]) dX7_house_39 mX7_293 (jRcv_of hR.1 rfl rfl) (Nat.le_of_ble_eq_true rfl) (jRm_ok (by omega) (by decide)) (x_isNameAt (d := d - 1) hR hT' hW ht (by omega) (by omega)) ?_
        refine jJ_if_ne (pc := 42) (tgt := 48) dX7_house_42 (by decide) (fun c42 => ?_) (fun c42 => ?_)
        · simp only [jb_nz] at c42
          refine jJ_aload_n (pc := 48) dX7_house_48 rfl ?_
          refine jJ_iload_n (pc := 49) dX7_house_49 rfl ?_
          refine jJ_iload_n (pc := 50) dX7_house_50 rfl ?_
          refine jJ_iconst (pc := 51) dX7_house_51 (by decide) ?_
          refine jJ_callV (pc := 52) (as := [_, _, _]) dX7_house_52 mX7_306 (jRcv_of hR.1 rfl rfl) (Nat.le_of_ble_eq_true rfl) (jRm_ok (by omega) (by decide)) (x_isAs (d := d - 1) (mk := 0) hR hT' hW ht (by omega) c42 (Or.inl rfl) (by omega)) ?_
          rintro v1 J1 P1 ⟨hP1, rfl, f1⟩
          rw [hP1]
          have hJ1 := hJ.tr f1
          have second : ∀ c1 : Int, c1 = c + b0 → jJ E yX7_house.cls cX7_house 4 (some .int) (jRm d) Z 0 0 61 [some (jp m), some (ji c1), some (ji (t : Int)), some (ji (i : Int))] [] J1 P := by
            intro c1 hc1
            have hc2 : c ≤ c1 ∧ c1 ≤ c + 1 := by rw [hc1, hb0]; split <;> omega
            refine jJ_aload_n (pc := 61) dX7_house_61 rfl ?_
            refine jJ_iload_n (pc := 62) dX7_house_62 rfl ?_
            refine jJ_iload_n (pc := 63) dX7_house_63 rfl ?_
            refine jJ_iconst (pc := 64) dX7_house_64 (by decide) ?_
            refine jJ_callV (pc := 65) (as := [_, _, _]) dX7_house_65 mX7_306 (jRcv_of hR.1 rfl rfl) (Nat.le_of_ble_eq_true rfl) (jRm_ok (by omega) (by decide)) (x_isAs (d := d - 1) (mk := 1) hR (hJ1.rt hR hT) hW ht (by omega) c42 (Or.inr rfl) (by omega)) ?_
            rintro v2 J2 P2 ⟨hP2, rfl, f2⟩
            rw [hP2]
            have hJ2 := hJ1.tr f2
            refine jJ_if_eq (pc := 68) (tgt := 74) dX7_house_68 (by decide) (fun c68 => ?_) (fun c68 => ?_)
            · simp only [jb_z] at c68
              exact nx c1 J2 hJ2 (by rw [hc1, hb1, if_neg (fun z => c68 z.2)]; omega)
            · simp only [jb_nz] at c68
              refine jJ_iinc (pc := 71) (ls' := [_, _, _, _]) dX7_house_71 rfl ⟨by omega, by omega⟩ rfl ?_
              exact nx (c1 + -1) J2 hJ2 (by rw [hc1, hb1, if_pos ⟨c42, c68⟩]; omega)
          refine jJ_if_eq (pc := 55) (tgt := 61) dX7_house_55 (by decide) (fun c55 => ?_) (fun c55 => ?_)
          · simp only [jb_z] at c55
            exact second c (by rw [hb0, if_neg (fun z => c55 z.2)]; omega)
          · simp only [jb_nz] at c55
            refine jJ_iinc (pc := 58) (ls' := [_, _, _, _]) dX7_house_58 rfl ⟨by omega, by omega⟩ rfl ?_
            exact second (c + 1) (by rw [hb0, if_pos ⟨c42, c55⟩])
        · simp only [jb_z] at c42
          refine jJ_goto (pc := 45) (tgt := 74) dX7_house_45 (by decide) ?_
          exact nx c J hJ (by rw [hb0, hb1, if_neg (fun z => c42 z.1), if_neg (fun z => c42 z.1)]; omega)
def hsX (th : Nat → Int) (X : Nat → TX) : Nat → Nat → Int
  | _, 0 => 0
  | t, k + 1 => (if th t ≠ 0 then hdX (X t) 0 (xT (X t)).length else 0) + hsX th X (t + 1) k
theorem house_out {X : Nat → TX} (hR : RfL E P m a) (hX : RTs I a X) (hd : 6 ≤ d) :
    ∀ (k t : Nat) (c : Int) (J : jI) (z : Option jV), t + k = 12 → -(200 * t) ≤ c → c ≤ 200 * t → mF I m a J → jJ E yX7_house.cls cX7_house 4 (some .int) (jRm d) (jZ E (fun v I' P' => P' = P ∧ mF I m a I' ∧ v = some (ji (if c + hsX (I (a 5)) X t k = 0 then -1 else if 0 < c + hsX (I (a 5)) X t k then 0 else 1)))) 0 0 9 [some (jp m), some (ji c), some (ji (t : Int)), z] [] J P := by
  intro k
  induction k with
  | zero =>
    intro t c J z ht h1 h2 hJ
    refine jJ_iload_n (pc := 9) dX7_house_9 rfl ?_
    refine jJ_bipush (pc := 10) dX7_house_10 (by decide) ?_
    refine jJ_icmp_ge (pc := 12) (tgt := 86) dX7_house_12 (by decide) (fun c12 => ?_) (fun c12 => ?_)
    · refine jJ_iload_n (pc := 86) dX7_house_86 rfl ?_
      refine jJ_if_ne (pc := 87) (tgt := 94) dX7_house_87 (by decide) (fun c87 => ?_) (fun c87 => ?_)
      · refine jJ_iload_n (pc := 94) dX7_house_94 rfl ?_
        refine jJ_if_le (pc := 95) (tgt := 102) dX7_house_95 (by decide) (fun c95 => ?_) (fun c95 => ?_)
        · refine jJ_iconst (pc := 102) dX7_house_102 (by decide) ?_
          refine jJ_iret (pc := 103) dX7_house_103 rfl ?_
          exact ⟨rfl, hJ, by simp only [hsX, Int.add_zero]; (repeat' split) <;> first | rfl | (exfalso; omega)⟩
        · refine jJ_iconst (pc := 98) dX7_house_98 (by decide) ?_
          refine jJ_goto (pc := 99) (tgt := 103) dX7_house_99 (by decide) ?_
          refine jJ_iret (pc := 103) dX7_house_103 rfl ?_
          exact ⟨rfl, hJ, by simp only [hsX, Int.add_zero]; (repeat' split) <;> first | rfl | (exfalso; omega)⟩
      · refine jJ_iconst (pc := 90) dX7_house_90 (by decide) ?_
        refine jJ_goto (pc := 91) (tgt := 103) dX7_house_91 (by decide) ?_
        refine jJ_iret (pc := 103) dX7_house_103 rfl ?_
        exact ⟨rfl, hJ, by simp only [hsX, Int.add_zero]; (repeat' split) <;> first | rfl | (exfalso; omega)⟩
    · exfalso
      omega
  | succ k ih =>
    intro t c J z ht h1 h2 hJ
    have e5 : J (a 5) = I (a 5) := hJ.row hR (by decide) (by decide) (by decide)
    refine jJ_iload_n (pc := 9) dX7_house_9 rfl ?_
    refine jJ_bipush (pc := 10) dX7_house_10 (by decide) ?_
    refine jJ_icmp_ge (pc := 12) (tgt := 86) dX7_house_12 (by decide) (fun c12 => ?_) (fun c12 => ?_)
    · exfalso
      omega
    · by_cases h5 : I (a 5) t = 0
      · refine jJ_iconst (pc := 15) dX7_house_15 (by decide) ?_
        refine jJ_istore_n (pc := 16) (ls' := [_, _, _, _]) dX7_house_16 (Nat.le_of_ble_eq_true rfl) rfl ?_
        refine jJ_aload_n (pc := 17) dX7_house_17 rfl ?_
        refine jJ_getr (pc := 18) dX7_house_18 fX7_17 rfl hR.1 hR.p5 ?_
        try simp only [Int.toNat_natCast, e5, h5]
        refine jJ_iload_n (pc := 21) dX7_house_21 rfl ?_
        refine jJ_zald (pc := 22) dX7_house_22 hR.a5 ⟨by omega, by omega⟩ ?_
        try simp only [Int.toNat_natCast, e5, h5]
        refine jJ_if_eq (pc := 23) (tgt := 80) dX7_house_23 (by decide) (fun c23 => ?_) (fun c23 => ?_)
        · refine jJ_iinc (pc := 80) (ls' := [_, _, _, _]) dX7_house_80 rfl ⟨by omega, by omega⟩ rfl ?_
          refine jJ_goto (pc := 83) (tgt := 9) dX7_house_83 (by decide) ?_
          rw [show hsX (I (a 5)) X t (k + 1) = hsX (I (a 5)) X (t + 1) k by rw [hsX, if_neg (by simp [h5]), Int.zero_add]]
          exact ih (t + 1) c J _ (by omega) (by omega) (by omega) hJ
        · exact absurd rfl c23
      · obtain ⟨hT, hW⟩ := hX t (by omega) h5
        have hl := hW.2.2.2.1
        have r0 := cntMd_r (xNm (X t)) (xSg (X t)) 0 (xT (X t)).length 0
        have r1 := cntMd_r (xNm (X t)) (xSg (X t)) 1 (xT (X t)).length 0
        have hr : hdX (X t) 0 (xT (X t)).length = cntMd (xNm (X t)) (xSg (X t)) 0 0 (xT (X t)).length - cntMd (xNm (X t)) (xSg (X t)) 1 0 (xT (X t)).length := rfl
        refine jJ_iconst (pc := 15) dX7_house_15 (by decide) ?_
        refine jJ_istore_n (pc := 16) (ls' := [_, _, _, _]) dX7_house_16 (Nat.le_of_ble_eq_true rfl) rfl ?_
        refine house_in hR hT hW h5 (by omega) rfl hd (xT (X t)).length 0 c J (by omega) (by omega) (by omega) hJ (fun J' z' hJ' => ?_)
        refine jJ_iinc (pc := 80) (ls' := [_, _, _, _]) dX7_house_80 rfl ⟨by omega, by omega⟩ rfl ?_
        refine jJ_goto (pc := 83) (tgt := 9) dX7_house_83 (by decide) ?_
        rw [hsX, if_pos h5, ← Int.add_assoc]
        exact ih (t + 1) _ J' _ (by omega) (by omega) (by omega) hJ'
theorem r_house {X : Nat → TX} (hR : RfL E P m a) (hX : RTs I a X) (hd : 6 ≤ d) : jC E yX7_house cX7_house 4 (some .int) d [jp m] I P (fun v I' P' => P' = P ∧ mF (jput I m 0 0) m a I' ∧ v = some (ji (if hsX (I (a 5)) X 0 12 = 0 then -1 else if 0 < hsX (I (a 5)) X 0 12 then 0 else 1))) := by
  have e5 : jput I m 0 0 (a 5) = I (a 5) := jput_row hR.n5
  refine jC_intro (by decide +kernel) (by simp [jc, va_rf, Value.category]) (Nat.le_of_ble_eq_true rfl) ?_
  refine jJ_aload_n (pc := 0) dX7_house_0 rfl ?_
  refine jJ_iconst (pc := 1) dX7_house_1 (by decide) ?_
  refine jJ_puti (pc := 2) dX7_house_2 fX7_78w rfl ⟨rfl, rfl⟩ hR.1 ?_
  refine jJ_iconst (pc := 5) dX7_house_5 (by decide) ?_
  refine jJ_istore_n (pc := 6) (ls' := [_, _, _, _]) dX7_house_6 (Nat.le_of_ble_eq_true rfl) rfl ?_
  refine jJ_iconst (pc := 7) dX7_house_7 (by decide) ?_
  refine jJ_istore_n (pc := 8) (ls' := [_, _, _, _]) dX7_house_8 (Nat.le_of_ble_eq_true rfl) rfl ?_
  have k := house_out (d := d) hR (hX.pm (k := 0) (v := 0) hR) hd 12 0 0 (jput I m 0 0) none (by omega) (by omega) (by omega) mF.rf
  rw [e5, Int.zero_add] at k
  exact k
/-- what was made is kept beside -/
theorem tk_copy {w : List Int × Int} {mk : Int} {J : jI} (hR : RfL E P m a) (hM : MdI J m a w) (hl : w.1.length ≤ 32) (hJ : mF I m a J) {Z : Code → List Frame → Array Value → State → State → Prop} {t' i' : Int} (kk : ∀ K, mF I m a K → (∀ k, k < w.1.length → K (a 33) k = w.1.getD k 0) → jJ E yX7_isTaken.cls cX7_isTaken 8 (some .boolean) (jRm d) Z 0 0 43 [some (jp m), some (ji t'), some (ji i'), some (ji mk), some (ji (w.1.length : Int)), some (ji (w.1.length : Int)), none, none] [] K P) :
    ∀ (r k : Nat) (K : jI), k + r = w.1.length → mF I m a K → MdI K m a w → (∀ j, j < k → K (a 33) j = w.1.getD j 0) → jJ E yX7_isTaken.cls cX7_isTaken 8 (some .boolean) (jRm d) Z 0 0 16 [some (jp m), some (ji t'), some (ji i'), some (ji mk), some (ji (w.1.length : Int)), some (ji (k : Int)), none, none] [] K P := by
  intro r
  induction r with
  | zero =>
    intro k K hk hK hMK ho
    refine jJ_iload (pc := 16) dX7_isTaken_16 rfl ?_
    refine jJ_iload (pc := 18) dX7_isTaken_18 rfl ?_
    refine jJ_icmp_ge (pc := 20) (tgt := 43) dX7_isTaken_20 (by decide) (fun c20 => ?_) (fun c20 => ?_)
    · rw [show k = w.1.length by omega]
      exact kk K hK (fun j hj => ho j (by omega))
    · exfalso
      omega
  | succ r ih =>
    intro k K hk hK hMK ho
    have e32 : K (a 32) ((k : Int).toNat) = w.1.getD k 0 := by rw [Int.toNat_natCast]; exact hMK.2.2 k (by omega)
    refine jJ_iload (pc := 16) dX7_isTaken_16 rfl ?_
    refine jJ_iload (pc := 18) dX7_isTaken_18 rfl ?_
    refine jJ_icmp_ge (pc := 20) (tgt := 43) dX7_isTaken_20 (by decide) (fun c20 => ?_) (fun c20 => ?_)
    · exfalso
      omega
    · refine jJ_aload_n (pc := 23) dX7_isTaken_23 rfl ?_
      refine jJ_getr (pc := 24) dX7_isTaken_24 fX7_75 rfl hR.1 hR.p33 ?_
      try simp only [e32]
      refine jJ_iload (pc := 27) dX7_isTaken_27 rfl ?_
      refine jJ_aload_n (pc := 29) dX7_isTaken_29 rfl ?_
      refine jJ_getr (pc := 30) dX7_isTaken_30 fX7_72 rfl hR.1 hR.p32 ?_
      try simp only [e32]
      refine jJ_iload (pc := 33) dX7_isTaken_33 rfl ?_
      refine jJ_iald (pc := 35) dX7_isTaken_35 hR.a32 ⟨by omega, by omega⟩ ?_
      try simp only [e32]
      refine jJ_iast (pc := 36) dX7_isTaken_36 hR.a33 ⟨by omega, by omega⟩ ?_
      try simp only [e32]
      refine jJ_iinc (pc := 37) (ls' := [_, _, _, _, _, _, _, _]) dX7_isTaken_37 rfl ⟨by omega, by omega⟩ rfl ?_
      refine jJ_goto (pc := 40) (tgt := 16) dX7_isTaken_40 (by decide) ?_
      rw [Int.toNat_natCast]
      have n33 := hR.n33
      have x32 : a 32 ≠ a 33 := hR.d (by decide) (by decide) (by decide)
      refine ih (k + 1) _ (by omega) (hK.tr (mF.ot hR)) ⟨by rw [jput_a _ (Ne.symm n33)]; exact hMK.1, by rw [jput_a _ (Ne.symm n33)]; exact hMK.2.1, fun j hj => by rw [jput_a _ x32]; exact hMK.2.2 j hj⟩ (fun j hj => ?_)
      by_cases q : j = k
      · subst q; exact jput_s _ _ _ _
      · rw [jput_k _ q]; exact ho j (by omega)
theorem tk_cmp {l : List Int} {w : List Int × Int} {mk : Int} {K : jI} {t' i' z5 : Int} (hR : RfL E P m a) (hM : MdI K m a w) (hl : l.length ≤ 32) (hlen : w.1.length = l.length) (ho : ∀ k, k < l.length → K (a 33) k = l.getD k 0) {Z : Code → List Frame → Array Value → State → State → Prop} (k1 : w.1 = l → jJ E yX7_isTaken.cls cX7_isTaken 8 (some .boolean) (jRm d) Z 0 0 151 [some (jp m), some (ji t'), some (ji i'), some (ji mk), some (ji (l.length : Int)), some (ji z5), some (ji 1), some (ji (l.length : Int))] [] K P) (k0 : ∀ z : Option jV, w.1 ≠ l → jJ E yX7_isTaken.cls cX7_isTaken 8 (some .boolean) (jRm d) Z 0 0 153 [some (jp m), some (ji t'), some (ji i'), some (ji mk), some (ji (l.length : Int)), some (ji z5), some (ji 0), z] [] K P) :
    ∀ (r k : Nat), k + r = l.length → (rowF (fun k => w.1.getD k 0) 0 k = rowF (fun k => l.getD k 0) 0 k) → jJ E yX7_isTaken.cls cX7_isTaken 8 (some .boolean) (jRm d) Z 0 0 104 [some (jp m), some (ji t'), some (ji i'), some (ji mk), some (ji (l.length : Int)), some (ji z5), some (ji 1), some (ji (k : Int))] [] K P := by
  intro r
  induction r with
  | zero =>
    intro k hk he
    refine jJ_iload (pc := 104) dX7_isTaken_104 rfl ?_
    refine jJ_iload (pc := 106) dX7_isTaken_106 rfl ?_
    refine jJ_icmp_ge (pc := 108) (tgt := 146) dX7_isTaken_108 (by decide) (fun c108 => ?_) (fun c108 => ?_)
    · refine jJ_iload (pc := 146) dX7_isTaken_146 rfl ?_
      refine jJ_if_eq (pc := 148) (tgt := 153) dX7_isTaken_148 (by decide) (fun c148 => ?_) (fun c148 => ?_)
      · exact absurd c148 (by decide)
      · rw [show k = l.length by omega] at he ⊢
        rw [rowF_gd, ← hlen, rowF_gd] at he
        exact k1 he
    · exfalso
      omega
  | succ r ih =>
    intro k hk he
    have e32 : K (a 32) ((k : Int).toNat) = w.1.getD k 0 := by rw [Int.toNat_natCast]; exact hM.2.2 k (by omega)
    have e33 : K (a 33) ((k : Int).toNat) = l.getD k 0 := by rw [Int.toNat_natCast]; exact ho k (by omega)
    refine jJ_iload (pc := 104) dX7_isTaken_104 rfl ?_
    refine jJ_iload (pc := 106) dX7_isTaken_106 rfl ?_
    refine jJ_icmp_ge (pc := 108) (tgt := 146) dX7_isTaken_108 (by decide) (fun c108 => ?_) (fun c108 => ?_)
    · exfalso
      omega
    · refine jJ_iload (pc := 111) dX7_isTaken_111 rfl ?_
      refine jJ_if_eq (pc := 113) (tgt := 146) dX7_isTaken_113 (by decide) (fun c113 => ?_) (fun c113 => ?_)
      · exact absurd c113 (by decide)
      · refine jJ_aload_n (pc := 116) dX7_isTaken_116 rfl ?_
        refine jJ_getr (pc := 117) dX7_isTaken_117 fX7_75 rfl hR.1 hR.p33 ?_
        try simp only [e33, e32]
        refine jJ_iload (pc := 120) dX7_isTaken_120 rfl ?_
        refine jJ_iald (pc := 122) dX7_isTaken_122 hR.a33 ⟨by omega, by omega⟩ ?_
        try simp only [e33, e32]
        refine jJ_aload_n (pc := 123) dX7_isTaken_123 rfl ?_
        refine jJ_getr (pc := 124) dX7_isTaken_124 fX7_72 rfl hR.1 hR.p32 ?_
        try simp only [e33, e32]
        refine jJ_iload (pc := 127) dX7_isTaken_127 rfl ?_
        refine jJ_iald (pc := 129) dX7_isTaken_129 hR.a32 ⟨by omega, by omega⟩ ?_
        try simp only [e33, e32]
        refine jJ_icmp_ne (pc := 130) (tgt := 137) dX7_isTaken_130 (by decide) (fun c130 => ?_) (fun c130 => ?_)
        · have hne : w.1 ≠ l := fun z => c130 (by rw [z])
          refine jJ_iconst (pc := 137) dX7_isTaken_137 (by decide) ?_
          refine jJ_istore (pc := 138) (ls' := [_, _, _, _, _, _, _, _]) dX7_isTaken_138 (Nat.le_of_ble_eq_true rfl) rfl ?_
          refine jJ_iinc (pc := 140) (ls' := [_, _, _, _, _, _, _, _]) dX7_isTaken_140 rfl ⟨by omega, by omega⟩ rfl ?_
          refine jJ_goto (pc := 143) (tgt := 104) dX7_isTaken_143 (by decide) ?_
          refine jJ_iload (pc := 104) dX7_isTaken_104 rfl ?_
          refine jJ_iload (pc := 106) dX7_isTaken_106 rfl ?_
          refine jJ_icmp_ge (pc := 108) (tgt := 146) dX7_isTaken_108 (by decide) (fun c108 => ?_) (fun c108 => ?_)
          · refine jJ_iload (pc := 146) dX7_isTaken_146 rfl ?_
            refine jJ_if_eq (pc := 148) (tgt := 153) dX7_isTaken_148 (by decide) (fun c148 => ?_) (fun c148 => ?_)
            · exact k0 _ hne
            · exact absurd rfl c148
          · refine jJ_iload (pc := 111) dX7_isTaken_111 rfl ?_
            refine jJ_if_eq (pc := 113) (tgt := 146) dX7_isTaken_113 (by decide) (fun c113 => ?_) (fun c113 => ?_)
            · refine jJ_iload (pc := 146) dX7_isTaken_146 rfl ?_
              refine jJ_if_eq (pc := 148) (tgt := 153) dX7_isTaken_148 (by decide) (fun c148 => ?_) (fun c148 => ?_)
              · exact k0 _ hne
              · exact absurd rfl c148
            · exact absurd rfl c113
        · refine jJ_iconst (pc := 133) dX7_isTaken_133 (by decide) ?_
          refine jJ_goto (pc := 134) (tgt := 138) dX7_isTaken_134 (by decide) ?_
          refine jJ_istore (pc := 138) (ls' := [_, _, _, _, _, _, _, _]) dX7_isTaken_138 (Nat.le_of_ble_eq_true rfl) rfl ?_
          refine jJ_iinc (pc := 140) (ls' := [_, _, _, _, _, _, _, _]) dX7_isTaken_140 rfl ⟨by omega, by omega⟩ rfl ?_
          refine jJ_goto (pc := 143) (tgt := 104) dX7_isTaken_143 (by decide) ?_
          refine ih (k + 1) (by omega) ?_
          rw [rowF_ap, rowF_ap, he]
          simp only [rowF, Nat.zero_add]
          rw [c130]
theorem taken_loop {mk : Int} {l : List Int} (hR : RfL E P m a) (hT : RT I a t x) (hW : WX x) (ht : t < 12) (hi : i < (xT x).length) (h1 : xSg x i = 1) (hm : mk = 0 ∨ mk = 1) (hl : l = (made mk (xNm x i)).1) (hd : 6 ≤ d) :
    ∀ (r j : Nat) (K : jI) (z6 z7 : Option jV), j + r = i → mF I m a K → (∀ k, k < l.length → K (a 33) k = l.getD k 0) → jJ E yX7_isTaken.cls cX7_isTaken 8 (some .boolean) (jRm d) (jZ E (fun v I' P' => P' = P ∧ mF I m a I' ∧ v = some (ji (jb (metB (xSg x) (fun j => (made mk (xNm x j)).1) (xNm x) i r j = true))))) 0 0 46 [some (jp m), some (ji (t : Int)), some (ji (i : Int)), some (ji mk), some (ji (l.length : Int)), some (ji (j : Int)), z6, z7] [] K P := by
  have l1 := hW.2.2.2.1
  have hml := made_len mk (xNm x i)
  rw [← hl] at hml
  intro r
  induction r with
  | zero =>
    intro j K z6 z7 hj hK ho
    refine jJ_iload (pc := 46) dX7_isTaken_46 rfl ?_
    refine jJ_iload_n (pc := 48) dX7_isTaken_48 rfl ?_
    refine jJ_icmp_ge (pc := 49) (tgt := 159) dX7_isTaken_49 (by decide) (fun c49 => ?_) (fun c49 => ?_)
    · refine jJ_iconst (pc := 159) dX7_isTaken_159 (by decide) ?_
      refine jJ_zret (pc := 160) dX7_isTaken_160 rfl (by decide) ?_
      exact ⟨rfl, hK, rfl⟩
    · exfalso
      omega
  | succ r ih =>
    intro j K z6 z7 hj hK ho
    have hT' := hK.rt hR hT
    have nx : ∀ (K' : jI) (z6 z7 : Option jV), mF I m a K' → (∀ k, k < l.length → K' (a 33) k = l.getD k 0) → ¬ (xSg x j = 1 ∧ (made mk (xNm x j)).1 = (made mk (xNm x i)).1 ∧ xNm x j ≠ xNm x i) → jJ E yX7_isTaken.cls cX7_isTaken 8 (some .boolean) (jRm d) (jZ E (fun v I' P' => P' = P ∧ mF I m a I' ∧ v = some (ji (jb (metB (xSg x) (fun j => (made mk (xNm x j)).1) (xNm x) i (r + 1) j = true))))) 0 0 153 [some (jp m), some (ji (t : Int)), some (ji (i : Int)), some (ji mk), some (ji (l.length : Int)), some (ji (j : Int)), z6, z7] [] K' P := by
      intro K' z6 z7 hK' ho' hc
      refine jJ_iinc (pc := 153) (ls' := [_, _, _, _, _, _, _, _]) dX7_isTaken_153 rfl ⟨by omega, by omega⟩ rfl ?_
      refine jJ_goto (pc := 156) (tgt := 46) dX7_isTaken_156 (by decide) ?_
      rw [metB, if_neg hc]
      exact ih (j + 1) K' z6 z7 (by omega) hK' ho'
    refine jJ_iload (pc := 46) dX7_isTaken_46 rfl ?_
    refine jJ_iload_n (pc := 48) dX7_isTaken_48 rfl ?_
    refine jJ_icmp_ge (pc := 49) (tgt := 159) dX7_isTaken_49 (by decide) (fun c49 => ?_) (fun c49 => ?_)
    · exfalso
      omega
    · refine jJ_aload_n (pc := 52) dX7_isTaken_52 rfl ?_
      refine jJ_iload_n (pc := 53) dX7_isTaken_53 rfl ?_
      refine jJ_iload (pc := 54) dX7_isTaken_54 rfl ?_
      refine jJ_callVd (pc := 56) (as := [_, _]) dX7_isTaken_56 mX7_293 (jRcv_of hR.1 rfl rfl) (Nat.le_of_ble_eq_true rfl) (jRm_ok (by omega) (by decide)) (x_isNameAt (d := d - 1) hR hT' hW ht (by omega) (by omega)) ?_
      refine jJ_if_eq (pc := 59) (tgt := 153) dX7_isTaken_59 (by decide) (fun c59 => ?_) (fun c59 => ?_)
      · simp only [jb_z] at c59
        exact nx K _ _ hK ho (fun z => c59 z.1)
      · simp only [jb_nz] at c59
        refine jJ_aload_n (pc := 62) dX7_isTaken_62 rfl ?_
        refine jJ_iload_n (pc := 63) dX7_isTaken_63 rfl ?_
        refine jJ_iload_n (pc := 64) dX7_isTaken_64 rfl ?_
        refine jJ_iload_n (pc := 65) dX7_isTaken_65 rfl ?_
        refine jJ_iload (pc := 66) dX7_isTaken_66 rfl ?_
        refine jJ_callVd (pc := 68) (as := [_, _, _, _]) dX7_isTaken_68 mX7_296 (jRcv_of hR.1 rfl rfl) (Nat.le_of_ble_eq_true rfl) (jRm_ok (by omega) (by decide)) (x_isSame (d := d - 1) hR hT' hW ht hi hT' hW ht (by omega)) ?_
        refine jJ_if_eq (pc := 71) (tgt := 77) dX7_isTaken_71 (by decide) (fun c71 => ?_) (fun c71 => ?_)
        · simp only [jb_z] at c71
          have hml2 := made_len mk (xNm x j)
          have f1 : mF K m a (mdM K m a (made mk (xNm x j))) := mF.md hR
          have hM : MdI (mdM K m a (made mk (xNm x j))) m a (made mk (xNm x j)) := MdI.of hR
          have ho2 : ∀ k, k < l.length → mdM K m a (made mk (xNm x j)) (a 33) k = l.getD k 0 := fun k hk => by rw [mdM_x hR.n33 (hR.d (by decide) (by decide) (by decide))]; exact ho k hk
          refine jJ_aload_n (pc := 77) dX7_isTaken_77 rfl ?_
          refine jJ_iload_n (pc := 78) dX7_isTaken_78 rfl ?_
          refine jJ_iload (pc := 79) dX7_isTaken_79 rfl ?_
          refine jJ_iload_n (pc := 81) dX7_isTaken_81 rfl ?_
          refine jJ_callVd (pc := 82) (as := [_, _, _]) dX7_isTaken_82 mX7_289 (jRcv_of hR.1 rfl rfl) (Nat.le_of_ble_eq_true rfl) (jRm_ok (by omega) (by decide)) (x_makes (d := d - 1) hR hT' hW ht (by omega) c59 hm (by omega)) ?_
          generalize mdM K m a (made mk (xNm x j)) = K2 at *
          have hK2 := hK.tr f1
          refine jJ_aload_n (pc := 85) dX7_isTaken_85 rfl ?_
          refine jJ_geti (pc := 86) dX7_isTaken_86 fX7_273 rfl hR.1 ?_
          try simp only [hM.1]
          refine jJ_iload (pc := 89) dX7_isTaken_89 rfl ?_
          refine jJ_icmp_ne (pc := 91) (tgt := 98) dX7_isTaken_91 (by decide) (fun c91 => ?_) (fun c91 => ?_)
          · refine jJ_iconst (pc := 98) dX7_isTaken_98 (by decide) ?_
            refine jJ_istore (pc := 99) (ls' := [_, _, _, _, _, _, _, _]) dX7_isTaken_99 (Nat.le_of_ble_eq_true rfl) rfl ?_
            refine jJ_iconst (pc := 101) dX7_isTaken_101 (by decide) ?_
            refine jJ_istore (pc := 102) (ls' := [_, _, _, _, _, _, _, _]) dX7_isTaken_102 (Nat.le_of_ble_eq_true rfl) rfl ?_
            refine jJ_iload (pc := 104) dX7_isTaken_104 rfl ?_
            refine jJ_iload (pc := 106) dX7_isTaken_106 rfl ?_
            refine jJ_icmp_ge (pc := 108) (tgt := 146) dX7_isTaken_108 (by decide) (fun c108 => ?_) (fun c108 => ?_)
            · refine jJ_iload (pc := 146) dX7_isTaken_146 rfl ?_
              refine jJ_if_eq (pc := 148) (tgt := 153) dX7_isTaken_148 (by decide) (fun c148 => ?_) (fun c148 => ?_)
              · exact nx K2 _ _ hK2 ho2 (fun z => c91 (by rw [z.2.1, ← hl]))
              · exact absurd rfl c148
            · refine jJ_iload (pc := 111) dX7_isTaken_111 rfl ?_
              refine jJ_if_eq (pc := 113) (tgt := 146) dX7_isTaken_113 (by decide) (fun c113 => ?_) (fun c113 => ?_)
              · refine jJ_iload (pc := 146) dX7_isTaken_146 rfl ?_
                refine jJ_if_eq (pc := 148) (tgt := 153) dX7_isTaken_148 (by decide) (fun c148 => ?_) (fun c148 => ?_)
                · exact nx K2 _ _ hK2 ho2 (fun z => c91 (by rw [z.2.1, ← hl]))
                · exact absurd rfl c148
              · exact absurd rfl c113
          · refine jJ_iconst (pc := 94) dX7_isTaken_94 (by decide) ?_
            refine jJ_goto (pc := 95) (tgt := 99) dX7_isTaken_95 (by decide) ?_
            refine jJ_istore (pc := 99) (ls' := [_, _, _, _, _, _, _, _]) dX7_isTaken_99 (Nat.le_of_ble_eq_true rfl) rfl ?_
            refine jJ_iconst (pc := 101) dX7_isTaken_101 (by decide) ?_
            refine jJ_istore (pc := 102) (ls' := [_, _, _, _, _, _, _, _]) dX7_isTaken_102 (Nat.le_of_ble_eq_true rfl) rfl ?_
            refine tk_cmp (l := l) hR hM hml (by omega) ho2 (fun he => ?_) (fun z hne => ?_) l.length 0 (by omega) rfl
            · refine jJ_iconst (pc := 151) dX7_isTaken_151 (by decide) ?_
              refine jJ_zret (pc := 152) dX7_isTaken_152 rfl (by decide) ?_
              refine ⟨rfl, hK2, ?_⟩
              rw [metB, if_pos ⟨c59, by rw [he, hl], fun z => c71 z.symm⟩]
              rfl
            · exact nx K2 _ _ hK2 ho2 (fun z => hne (by rw [z.2.1, hl]))
        · simp only [jb_nz] at c71
          refine jJ_goto (pc := 74) (tgt := 153) dX7_isTaken_74 (by decide) ?_
          exact nx K _ _ hK ho (fun z => z.2.2 c71.symm)
theorem x_isTaken {mk : Int} (hR : RfL E P m a) (hT : RT I a t x) (hW : WX x) (ht : t < 12) (hi : i < (xT x).length) (h1 : xSg x i = 1) (hm : mk = 0 ∨ mk = 1) (hd : 6 ≤ d) :
    jC E yX7_isTaken cX7_isTaken 8 (some .boolean) d [jp m, ji (t : Int), ji (i : Int), ji mk] I P (fun v I' P' => P' = P ∧ mF I m a I' ∧ v = some (ji (jb (metB (xSg x) (fun j => (made mk (xNm x j)).1) (xNm x) i i 0 = true)))) := by
  have l1 := hW.2.2.2.1
  have hml := made_len mk (xNm x i)
  have hMF : mF I m a (mdM I m a (made mk (xNm x i))) := mF.md hR
  have hM : MdI (mdM I m a (made mk (xNm x i))) m a (made mk (xNm x i)) := MdI.of hR
  refine jC_intro (by decide +kernel) (by simp [jc, va_rf, Value.category]) (Nat.le_of_ble_eq_true rfl) ?_
  refine jJ_aload_n (pc := 0) dX7_isTaken_0 rfl ?_
  refine jJ_iload_n (pc := 1) dX7_isTaken_1 rfl ?_
  refine jJ_iload_n (pc := 2) dX7_isTaken_2 rfl ?_
  refine jJ_iload_n (pc := 3) dX7_isTaken_3 rfl ?_
  refine jJ_callVd (pc := 4) (as := [_, _, _]) dX7_isTaken_4 mX7_289 (jRcv_of hR.1 rfl rfl) (Nat.le_of_ble_eq_true rfl) (jRm_ok (by omega) (by decide)) (x_makes (d := d - 1) hR hT hW ht hi h1 hm (by omega)) ?_
  generalize mdM I m a (made mk (xNm x i)) = J at *
  refine jJ_aload_n (pc := 7) dX7_isTaken_7 rfl ?_
  refine jJ_geti (pc := 8) dX7_isTaken_8 fX7_273 rfl hR.1 ?_
  try simp only [hM.1]
  refine jJ_istore (pc := 11) (ls' := [_, _, _, _, _, _, _, _]) dX7_isTaken_11 (Nat.le_of_ble_eq_true rfl) rfl ?_
  refine jJ_iconst (pc := 13) dX7_isTaken_13 (by decide) ?_
  refine jJ_istore (pc := 14) (ls' := [_, _, _, _, _, _, _, _]) dX7_isTaken_14 (Nat.le_of_ble_eq_true rfl) rfl ?_
  refine tk_copy (I := I) hR hM hml hMF (fun K hK ho => ?_) (made mk (xNm x i)).1.length 0 J (by omega) hMF hM (fun j hj => absurd hj (by omega))
  refine jJ_iconst (pc := 43) dX7_isTaken_43 (by decide) ?_
  refine jJ_istore (pc := 44) (ls' := [_, _, _, _, _, _, _, _]) dX7_isTaken_44 (Nat.le_of_ble_eq_true rfl) rfl ?_
  exact taken_loop hR hT hW ht hi h1 hm rfl hd i 0 K none none (by omega) hK ho
end JRH
