section JRK
variable {E : jE} {I : jI} {P : jP} {d m t i : Nat} {a : Nat → Nat} {x : TX}
/-- only what is made has changed -/
def mF (I : jI) (m : Nat) (a : Nat → Nat) (I' : jI) : Prop := (∀ b, b ≠ m → b ≠ a 32 → b ≠ a 33 → I' b = I b) ∧ ∀ k, k ≠ 34 → k ≠ 35 → I' m k = I m k
theorem mF.rf : mF I m a I := ⟨fun _ _ _ _ => rfl, fun _ _ _ => rfl⟩
theorem mF.tr {J K : jI} (h1 : mF I m a J) (h2 : mF J m a K) : mF I m a K := ⟨fun b x y z => (h2.1 b x y z).trans (h1.1 b x y z), fun k x y => (h2.2 k x y).trans (h1.2 k x y)⟩
theorem mF.md {w : List Int × Int} (hR : RfL E P m a) : mF I m a (mdM I m a w) := by
  refine ⟨fun b h1 h2 _ => mdM_x h1 h2, fun k h1 h2 => ?_⟩
  unfold mdM
  rw [if_neg (fun z => h1 z.2), if_neg (fun z => h2 z.2), if_neg (fun z => hR.n32 z.1.symm)]
theorem mF.ot {k : Nat} {v : Int} (hR : RfL E P m a) : mF I m a (jput I (a 33) k v) := ⟨fun b _ _ h3 => by funext j; exact jput_a I h3, fun j _ _ => jput_a I (Ne.symm hR.n33)⟩
theorem mF.row {J : jI} {j : Nat} (h : mF I m a J) (hR : RfL E P m a) (hj : j ∈ rfK) (h2 : j ≠ 32) (h3 : j ≠ 33) : J (a j) = I (a j) := h.1 _ (hR.nm hj) (hR.d hj (by decide) h2) (hR.d hj (by decide) h3)
theorem mF.rt {J : jI} (h : mF I m a J) (hR : RfL E P m a) (hT : RT I a t x) : RT J a t x := hT.cg (fun j h1 h2 => h.row hR (rfK_515 j (by omega) h2) (by omega) (by omega))
theorem mF.rts {J : jI} {X : Nat → TX} (h : mF I m a J) (hR : RfL E P m a) (hX : RTs I a X) : RTs J a X := hX.cg (fun j h1 h2 => h.row hR (rfK_515 j h1 h2) (by omega) (by omega))
/-- what was made lies in the memory -/
def MdI (J : jI) (m : Nat) (a : Nat → Nat) (w : List Int × Int) : Prop := J m 34 = (w.1.length : Int) ∧ J m 35 = w.2 ∧ ∀ k, k < w.1.length → J (a 32) k = w.1.getD k 0
theorem MdI.of {w : List Int × Int} (hR : RfL E P m a) : MdI (mdM I m a w) m a w := by
  refine ⟨mdM_34, mdM_35, fun k hk => ?_⟩
  unfold mdM
  rw [if_neg (fun z => hR.n32 z.1), if_neg (fun z => hR.n32 z.1), if_pos ⟨rfl, hk⟩]
theorem isM_lp {q : Nat} {w : List Int × Int} (hR : RfL E P m a) (hM : MdI I m a w) (hl : w.1.length ≤ 32) (hq : q < 15) (hlen : w.1.length = sLn q) (hd : 4 ≤ d) :
    ∀ (k j : Nat), j + k = sLn q → jJ E yX7_isMade.cls cX7_isMade 4 (some .boolean) (jRm d) (jZ E (jD (some (ji (jb (allE (fun k => w.1.getD k 0) (sCh q) j j k = true)))) I P)) 0 0 19 [some (jp m), some (jp (eSk E q)), some (ji 1), some (ji (j : Int))] [] I P := by
  intro k
  induction k with
  | zero =>
    intro j hj
    refine jJ_iload_n (pc := 19) dX7_isMade_19 rfl ?_
    refine jJ_aload_n (pc := 20) dX7_isMade_20 rfl ?_
    refine jJ_callVd (pc := 21) (as := []) dX7_isMade_21 mX7_122 (Or.inr ⟨rfl, q, hq, rfl⟩) (Nat.le_of_ble_eq_true rfl) (jRm_ok (by omega) (by decide)) (c_len (d := d - 1) hq (by omega)) ?_
    refine jJ_icmp_ge (pc := 24) (tgt := 57) dX7_isMade_24 (by decide) (fun c24 => ?_) (fun c24 => ?_)
    · refine jJ_iload_n (pc := 57) dX7_isMade_57 rfl ?_
      refine jJ_zret (pc := 58) dX7_isMade_58 rfl (by decide) ?_
      exact ⟨rfl, rfl, rfl⟩
    · exfalso
      omega
  | succ k ih =>
    intro j hj
    have e32 : I (a 32) ((j : Int).toNat) = w.1.getD j 0 := by rw [Int.toNat_natCast]; exact hM.2.2 j (by omega)
    refine jJ_iload_n (pc := 19) dX7_isMade_19 rfl ?_
    refine jJ_aload_n (pc := 20) dX7_isMade_20 rfl ?_
    refine jJ_callVd (pc := 21) (as := []) dX7_isMade_21 mX7_122 (Or.inr ⟨rfl, q, hq, rfl⟩) (Nat.le_of_ble_eq_true rfl) (jRm_ok (by omega) (by decide)) (c_len (d := d - 1) hq (by omega)) ?_
    refine jJ_icmp_ge (pc := 24) (tgt := 57) dX7_isMade_24 (by decide) (fun c24 => ?_) (fun c24 => ?_)
    · exfalso
      omega
    · refine jJ_iload_n (pc := 27) dX7_isMade_27 rfl ?_
      refine jJ_if_eq (pc := 28) (tgt := 57) dX7_isMade_28 (by decide) (fun c28 => ?_) (fun c28 => ?_)
      · exact absurd c28 (by decide)
      · refine jJ_aload_n (pc := 31) dX7_isMade_31 rfl ?_
        refine jJ_getr (pc := 32) dX7_isMade_32 fX7_72 rfl hR.1 hR.p32 ?_
        try simp only [e32]
        refine jJ_iload_n (pc := 35) dX7_isMade_35 rfl ?_
        refine jJ_iald (pc := 36) dX7_isMade_36 hR.a32 ⟨by omega, by omega⟩ ?_
        try simp only [e32]
        refine jJ_aload_n (pc := 37) dX7_isMade_37 rfl ?_
        refine jJ_iload_n (pc := 38) dX7_isMade_38 rfl ?_
        refine jJ_callVd (pc := 39) (as := [_]) dX7_isMade_39 mX7_126 (Or.inr ⟨rfl, q, hq, rfl⟩) (Nat.le_of_ble_eq_true rfl) (jRm_ok (by omega) (by decide)) (c_charAt (d := d - 1) hq (by omega) (by omega)) ?_
        refine jJ_icmp_ne (pc := 42) (tgt := 49) dX7_isMade_42 (by decide) (fun c42 => ?_) (fun c42 => ?_)
        · refine jJ_iconst (pc := 49) dX7_isMade_49 (by decide) ?_
          refine jJ_istore_n (pc := 50) (ls' := [_, _, _, _]) dX7_isMade_50 (Nat.le_of_ble_eq_true rfl) rfl ?_
          refine jJ_iinc (pc := 51) (ls' := [_, _, _, _]) dX7_isMade_51 rfl ⟨by omega, by omega⟩ rfl ?_
          refine jJ_goto (pc := 54) (tgt := 19) dX7_isMade_54 (by decide) ?_
          rw [allE_f (f := fun k => w.1.getD k 0) c42]
          refine jJ_iload_n (pc := 19) dX7_isMade_19 rfl ?_
          refine jJ_aload_n (pc := 20) dX7_isMade_20 rfl ?_
          refine jJ_callVd (pc := 21) (as := []) dX7_isMade_21 mX7_122 (Or.inr ⟨rfl, q, hq, rfl⟩) (Nat.le_of_ble_eq_true rfl) (jRm_ok (by omega) (by decide)) (c_len (d := d - 1) hq (by omega)) ?_
          refine jJ_icmp_ge (pc := 24) (tgt := 57) dX7_isMade_24 (by decide) (fun c24 => ?_) (fun c24 => ?_)
          · refine jJ_iload_n (pc := 57) dX7_isMade_57 rfl ?_
            refine jJ_zret (pc := 58) dX7_isMade_58 rfl (by decide) ?_
            exact ⟨rfl, rfl, rfl⟩
          · refine jJ_iload_n (pc := 27) dX7_isMade_27 rfl ?_
            refine jJ_if_eq (pc := 28) (tgt := 57) dX7_isMade_28 (by decide) (fun c28 => ?_) (fun c28 => ?_)
            · refine jJ_iload_n (pc := 57) dX7_isMade_57 rfl ?_
              refine jJ_zret (pc := 58) dX7_isMade_58 rfl (by decide) ?_
              exact ⟨rfl, rfl, rfl⟩
            · exact absurd rfl c28
        · refine jJ_iconst (pc := 45) dX7_isMade_45 (by decide) ?_
          refine jJ_goto (pc := 46) (tgt := 50) dX7_isMade_46 (by decide) ?_
          refine jJ_istore_n (pc := 50) (ls' := [_, _, _, _]) dX7_isMade_50 (Nat.le_of_ble_eq_true rfl) rfl ?_
          refine jJ_iinc (pc := 51) (ls' := [_, _, _, _]) dX7_isMade_51 rfl ⟨by omega, by omega⟩ rfl ?_
          refine jJ_goto (pc := 54) (tgt := 19) dX7_isMade_54 (by decide) ?_
          rw [allE_t (f := fun k => w.1.getD k 0) c42]
          exact ih (j + 1) (by omega)
theorem x_isMade {q : Nat} {w : List Int × Int} (hR : RfL E P m a) (hM : MdI I m a w) (hl : w.1.length ≤ 32) (hq : q < 15) (hd : 4 ≤ d) :
    jC E yX7_isMade cX7_isMade 4 (some .boolean) d [jp m, jp (eSk E q)] I P (jD (some (ji (jb (isKw (fun k => w.1.getD k 0) 32 q 0 (w.1.length : Int) = true)))) I P) := by
  have hls := sLn_ok q hq
  have hk := isKw_iff (f := fun k => w.1.getD k 0) (n := 32) (i := q) (a := 0) (b := (w.1.length : Int))
  refine jC_intro (by decide +kernel) (by simp [jc, va_rf, Value.category]) (Nat.le_of_ble_eq_true rfl) ?_
  refine jJ_aload_n (pc := 0) dX7_isMade_0 rfl ?_
  refine jJ_geti (pc := 1) dX7_isMade_1 fX7_273 rfl hR.1 ?_
  try simp only [hM.1]
  refine jJ_aload_n (pc := 4) dX7_isMade_4 rfl ?_
  refine jJ_callVd (pc := 5) (as := []) dX7_isMade_5 mX7_122 (Or.inr ⟨rfl, q, hq, rfl⟩) (Nat.le_of_ble_eq_true rfl) (jRm_ok (by omega) (by decide)) (c_len (d := d - 1) hq (by omega)) ?_
  refine jJ_icmp_ne (pc := 8) (tgt := 15) dX7_isMade_8 (by decide) (fun c8 => ?_) (fun c8 => ?_)
  · rw [← jb_f (fun z => c8 (by have := (hk.mp z).1; omega))]
    refine jJ_iconst (pc := 15) dX7_isMade_15 (by decide) ?_
    refine jJ_istore_n (pc := 16) (ls' := [_, _, _, _]) dX7_isMade_16 (Nat.le_of_ble_eq_true rfl) rfl ?_
    refine jJ_iconst (pc := 17) dX7_isMade_17 (by decide) ?_
    refine jJ_istore_n (pc := 18) (ls' := [_, _, _, _]) dX7_isMade_18 (Nat.le_of_ble_eq_true rfl) rfl ?_
    refine jJ_iload_n (pc := 19) dX7_isMade_19 rfl ?_
    refine jJ_aload_n (pc := 20) dX7_isMade_20 rfl ?_
    refine jJ_callVd (pc := 21) (as := []) dX7_isMade_21 mX7_122 (Or.inr ⟨rfl, q, hq, rfl⟩) (Nat.le_of_ble_eq_true rfl) (jRm_ok (by omega) (by decide)) (c_len (d := d - 1) hq (by omega)) ?_
    refine jJ_icmp_ge (pc := 24) (tgt := 57) dX7_isMade_24 (by decide) (fun c24 => ?_) (fun c24 => ?_)
    · refine jJ_iload_n (pc := 57) dX7_isMade_57 rfl ?_
      refine jJ_zret (pc := 58) dX7_isMade_58 rfl (by decide) ?_
      exact ⟨rfl, rfl, rfl⟩
    · refine jJ_iload_n (pc := 27) dX7_isMade_27 rfl ?_
      refine jJ_if_eq (pc := 28) (tgt := 57) dX7_isMade_28 (by decide) (fun c28 => ?_) (fun c28 => ?_)
      · refine jJ_iload_n (pc := 57) dX7_isMade_57 rfl ?_
        refine jJ_zret (pc := 58) dX7_isMade_58 rfl (by decide) ?_
        exact ⟨rfl, rfl, rfl⟩
      · exact absurd rfl c28
  · refine jJ_iconst (pc := 11) dX7_isMade_11 (by decide) ?_
    refine jJ_goto (pc := 12) (tgt := 16) dX7_isMade_12 (by decide) ?_
    refine jJ_istore_n (pc := 16) (ls' := [_, _, _, _]) dX7_isMade_16 (Nat.le_of_ble_eq_true rfl) rfl ?_
    refine jJ_iconst (pc := 17) dX7_isMade_17 (by decide) ?_
    refine jJ_istore_n (pc := 18) (ls' := [_, _, _, _]) dX7_isMade_18 (Nat.le_of_ble_eq_true rfl) rfl ?_
    have k := isM_lp (d := d) hR hM hl hq (by omega) hd (sLn q) 0 (by omega)
    have e : (allE (fun k => w.1.getD k 0) (sCh q) 0 0 (sLn q) = true) ↔ isKw (fun k => w.1.getD k 0) 32 q 0 (w.1.length : Int) = true := by
      rw [hk]
      exact ⟨fun z => ⟨by omega, by decide, by omega, z⟩, fun z => z.2.2.2⟩
    rw [jb_cg e] at k
    exact k
theorem rowF_gd (l : List Int) : rowF (fun k => l.getD k 0) 0 l.length = l := rowF_of l 0 (fun j _ => by rw [Nat.zero_add])
theorem as_lp {mk : Int} {w : List Int × Int} (hR : RfL E P m a) (hM : MdI I m a w) (hl : w.1.length ≤ 32) (hT : RT I a t x) (hW : WX x) (ht : t < 12) (hi : i < (xT x).length) (hlen : w.1.length = (xEn x i - xSt x i).toNat) :
    ∀ (r k : Nat), k + r = w.1.length → jJ E yX7_isAs.cls cX7_isAs 6 (some .boolean) (jRm d) (jZ E (jD (some (ji (jb (rowF (fun k => w.1.getD k 0) k r = rowF (xF x) ((xSt x i).toNat + k) r ∧ 1 < w.2)))) I P)) 0 0 36 [some (jp m), some (ji (t : Int)), some (ji (i : Int)), some (ji mk), some (ji 1), some (ji (k : Int))] [] I P := by
  have l1 := hW.2.2.2.1
  have t1 := (hW.tk hi).1
  have e11 := hT.g11n hi
  intro r
  induction r with
  | zero =>
    intro k hk
    refine jJ_iload (pc := 36) dX7_isAs_36 rfl ?_
    refine jJ_aload_n (pc := 38) dX7_isAs_38 rfl ?_
    refine jJ_geti (pc := 39) dX7_isAs_39 fX7_273 rfl hR.1 ?_
    try simp only [hM.1]
    refine jJ_icmp_ge (pc := 42) (tgt := 99) dX7_isAs_42 (by decide) (fun c42 => ?_) (fun c42 => ?_)
    · refine jJ_iload (pc := 99) dX7_isAs_99 rfl ?_
      refine jJ_if_eq (pc := 101) (tgt := 116) dX7_isAs_101 (by decide) (fun c101 => ?_) (fun c101 => ?_)
      · exact absurd c101 (by decide)
      · refine jJ_aload_n (pc := 104) dX7_isAs_104 rfl ?_
        refine jJ_geti (pc := 105) dX7_isAs_105 fX7_276 rfl hR.1 ?_
        try simp only [hM.2.1]
        refine jJ_iconst (pc := 108) dX7_isAs_108 (by decide) ?_
        refine jJ_icmp_le (pc := 109) (tgt := 116) dX7_isAs_109 (by decide) (fun c109 => ?_) (fun c109 => ?_)
        · refine jJ_iconst (pc := 116) dX7_isAs_116 (by decide) ?_
          refine jJ_zret (pc := 117) dX7_isAs_117 rfl (by decide) ?_
          exact ⟨by rw [← jb_f (by omega)], rfl, rfl⟩
        · refine jJ_iconst (pc := 112) dX7_isAs_112 (by decide) ?_
          refine jJ_goto (pc := 113) (tgt := 117) dX7_isAs_113 (by decide) ?_
          refine jJ_zret (pc := 117) dX7_isAs_117 rfl (by decide) ?_
          exact ⟨by rw [← jb_t ⟨by simp [rowF], by omega⟩], rfl, rfl⟩
    · exfalso
      omega
  | succ r ih =>
    intro k hk
    have e32 : I (a 32) ((k : Int).toNat) = w.1.getD k 0 := by rw [Int.toNat_natCast]; exact hM.2.2 k (by omega)
    have b1 := hT.byn hW hi (k := k) (by omega)
    refine jJ_iload (pc := 36) dX7_isAs_36 rfl ?_
    refine jJ_aload_n (pc := 38) dX7_isAs_38 rfl ?_
    refine jJ_geti (pc := 39) dX7_isAs_39 fX7_273 rfl hR.1 ?_
    try simp only [hM.1]
    refine jJ_icmp_ge (pc := 42) (tgt := 99) dX7_isAs_42 (by decide) (fun c42 => ?_) (fun c42 => ?_)
    · exfalso
      omega
    · refine jJ_iload (pc := 45) dX7_isAs_45 rfl ?_
      refine jJ_if_eq (pc := 47) (tgt := 99) dX7_isAs_47 (by decide) (fun c47 => ?_) (fun c47 => ?_)
      · exact absurd c47 (by decide)
      · refine jJ_aload_n (pc := 50) dX7_isAs_50 rfl ?_
        refine jJ_getr (pc := 51) dX7_isAs_51 fX7_72 rfl hR.1 hR.p32 ?_
        try simp only [e32, e11, b1]
        refine jJ_iload (pc := 54) dX7_isAs_54 rfl ?_
        refine jJ_iald (pc := 56) dX7_isAs_56 hR.a32 ⟨by omega, by omega⟩ ?_
        try simp only [e32, e11, b1]
        refine jJ_aload_n (pc := 57) dX7_isAs_57 rfl ?_
        refine jJ_getr (pc := 58) dX7_isAs_58 fX7_21 rfl hR.1 hR.p6 ?_
        try simp only [e32, e11, b1]
        refine jJ_sipush (pc := 61) dX7_isAs_61 (by decide) ?_
        refine jJ_iload_n (pc := 64) dX7_isAs_64 rfl ?_
        refine jJ_imul (pc := 65) dX7_isAs_65 ⟨by omega, by omega⟩ ?_
        refine jJ_aload_n (pc := 66) dX7_isAs_66 rfl ?_
        refine jJ_getr (pc := 67) dX7_isAs_67 fX7_36 rfl hR.1 hR.p11 ?_
        try simp only [e32, e11, b1]
        refine jJ_sipush (pc := 70) dX7_isAs_70 (by decide) ?_
        refine jJ_iload_n (pc := 73) dX7_isAs_73 rfl ?_
        refine jJ_imul (pc := 74) dX7_isAs_74 ⟨by omega, by omega⟩ ?_
        refine jJ_iload_n (pc := 75) dX7_isAs_75 rfl ?_
        refine jJ_iadd (pc := 76) dX7_isAs_76 ⟨by omega, by omega⟩ ?_
        refine jJ_iald (pc := 77) dX7_isAs_77 hR.a11 ⟨by omega, by omega⟩ ?_
        try simp only [e32, e11, b1]
        refine jJ_iadd (pc := 78) dX7_isAs_78 ⟨by omega, by omega⟩ ?_
        refine jJ_iload (pc := 79) dX7_isAs_79 rfl ?_
        refine jJ_iadd (pc := 81) dX7_isAs_81 ⟨by omega, by omega⟩ ?_
        refine jJ_iald (pc := 82) dX7_isAs_82 hR.a6 ⟨by omega, by omega⟩ ?_
        try simp only [e32, e11, b1]
        refine jJ_icmp_ne (pc := 83) (tgt := 90) dX7_isAs_83 (by decide) (fun c83 => ?_) (fun c83 => ?_)
        · refine jJ_iconst (pc := 90) dX7_isAs_90 (by decide) ?_
          refine jJ_istore (pc := 91) (ls' := [_, _, _, _, _, _]) dX7_isAs_91 (Nat.le_of_ble_eq_true rfl) rfl ?_
          refine jJ_iinc (pc := 93) (ls' := [_, _, _, _, _, _]) dX7_isAs_93 rfl ⟨by omega, by omega⟩ rfl ?_
          refine jJ_goto (pc := 96) (tgt := 36) dX7_isAs_96 (by decide) ?_
          have hne : ¬ (rowF (fun k => w.1.getD k 0) k (r + 1) = rowF (xF x) ((xSt x i).toNat + k) (r + 1) ∧ 1 < w.2) := fun z => c83 (by have := z.1; simp only [rowF] at this; exact (List.cons.inj this).1)
          rw [← jb_f hne]
          refine jJ_iload (pc := 36) dX7_isAs_36 rfl ?_
          refine jJ_aload_n (pc := 38) dX7_isAs_38 rfl ?_
          refine jJ_geti (pc := 39) dX7_isAs_39 fX7_273 rfl hR.1 ?_
          try simp only [hM.1]
          refine jJ_icmp_ge (pc := 42) (tgt := 99) dX7_isAs_42 (by decide) (fun c42 => ?_) (fun c42 => ?_)
          · refine jJ_iload (pc := 99) dX7_isAs_99 rfl ?_
            refine jJ_if_eq (pc := 101) (tgt := 116) dX7_isAs_101 (by decide) (fun c101 => ?_) (fun c101 => ?_)
            · refine jJ_iconst (pc := 116) dX7_isAs_116 (by decide) ?_
              refine jJ_zret (pc := 117) dX7_isAs_117 rfl (by decide) ?_
              exact ⟨rfl, rfl, rfl⟩
            · exact absurd rfl c101
          · refine jJ_iload (pc := 45) dX7_isAs_45 rfl ?_
            refine jJ_if_eq (pc := 47) (tgt := 99) dX7_isAs_47 (by decide) (fun c47 => ?_) (fun c47 => ?_)
            · refine jJ_iload (pc := 99) dX7_isAs_99 rfl ?_
              refine jJ_if_eq (pc := 101) (tgt := 116) dX7_isAs_101 (by decide) (fun c101 => ?_) (fun c101 => ?_)
              · refine jJ_iconst (pc := 116) dX7_isAs_116 (by decide) ?_
                refine jJ_zret (pc := 117) dX7_isAs_117 rfl (by decide) ?_
                exact ⟨rfl, rfl, rfl⟩
              · exact absurd rfl c101
            · exact absurd rfl c47
        · refine jJ_iconst (pc := 86) dX7_isAs_86 (by decide) ?_
          refine jJ_goto (pc := 87) (tgt := 91) dX7_isAs_87 (by decide) ?_
          refine jJ_istore (pc := 91) (ls' := [_, _, _, _, _, _]) dX7_isAs_91 (Nat.le_of_ble_eq_true rfl) rfl ?_
          refine jJ_iinc (pc := 93) (ls' := [_, _, _, _, _, _]) dX7_isAs_93 rfl ⟨by omega, by omega⟩ rfl ?_
          refine jJ_goto (pc := 96) (tgt := 36) dX7_isAs_96 (by decide) ?_
          have hiff : (rowF (fun k => w.1.getD k 0) k (r + 1) = rowF (xF x) ((xSt x i).toNat + k) (r + 1) ∧ 1 < w.2) ↔ (rowF (fun k => w.1.getD k 0) (k + 1) r = rowF (xF x) ((xSt x i).toNat + (k + 1)) r ∧ 1 < w.2) := by
            simp only [rowF]
            rw [c83, Nat.add_assoc]
            constructor
            · intro z; exact ⟨(List.cons.inj z.1).2, z.2⟩
            · intro z; rw [z.1]; exact ⟨rfl, z.2⟩
          rw [jb_cg hiff]
          exact ih (k + 1) (by omega)
theorem x_isAs {mk : Int} (hR : RfL E P m a) (hT : RT I a t x) (hW : WX x) (ht : t < 12) (hi : i < (xT x).length) (h1 : xSg x i = 1) (hm : mk = 0 ∨ mk = 1) (hd : 2 ≤ d) :
    jC E yX7_isAs cX7_isAs 6 (some .boolean) d [jp m, ji (t : Int), ji (i : Int), ji mk] I P (fun v I' P' => P' = P ∧ v = some (ji (jb (1 < (made mk (xNm x i)).2 ∧ (made mk (xNm x i)).1 = xNm x i))) ∧ mF I m a I') := by
  have l1 := hW.2.2.2.1
  have hml := made_len mk (xNm x i)
  have hMF : mF I m a (mdM I m a (made mk (xNm x i))) := mF.md hR
  have hM : MdI (mdM I m a (made mk (xNm x i))) m a (made mk (xNm x i)) := MdI.of hR
  have hT0 := hMF.rt hR hT
  have hln : (xNm x i).length = (xEn x i - xSt x i).toNat := by unfold xNm; exact rowF_len _ _
  have e12 := hT0.g12n hW hi
  refine jC_intro (by decide +kernel) (by simp [jc, va_rf, Value.category]) (Nat.le_of_ble_eq_true rfl) ?_
  refine jJ_aload_n (pc := 0) dX7_isAs_0 rfl ?_
  refine jJ_iload_n (pc := 1) dX7_isAs_1 rfl ?_
  refine jJ_iload_n (pc := 2) dX7_isAs_2 rfl ?_
  refine jJ_iload_n (pc := 3) dX7_isAs_3 rfl ?_
  refine jJ_callVd (pc := 4) (as := [_, _, _]) dX7_isAs_4 mX7_289 (jRcv_of hR.1 rfl rfl) (Nat.le_of_ble_eq_true rfl) (jRm_ok (by omega) (by decide)) (x_makes (d := d - 1) hR hT hW ht hi h1 hm (by omega)) ?_
  generalize mdM I m a (made mk (xNm x i)) = J at *
  refine jJ_aload_n (pc := 7) dX7_isAs_7 rfl ?_
  refine jJ_geti (pc := 8) dX7_isAs_8 fX7_273 rfl hR.1 ?_
  try simp only [hM.1, e12]
  refine jJ_aload_n (pc := 11) dX7_isAs_11 rfl ?_
  refine jJ_getr (pc := 12) dX7_isAs_12 fX7_39 rfl hR.1 hR.p12 ?_
  try simp only [hM.1, e12]
  refine jJ_sipush (pc := 15) dX7_isAs_15 (by decide) ?_
  refine jJ_iload_n (pc := 18) dX7_isAs_18 rfl ?_
  refine jJ_imul (pc := 19) dX7_isAs_19 ⟨by omega, by omega⟩ ?_
  refine jJ_iload_n (pc := 20) dX7_isAs_20 rfl ?_
  refine jJ_iadd (pc := 21) dX7_isAs_21 ⟨by omega, by omega⟩ ?_
  refine jJ_iald (pc := 22) dX7_isAs_22 hR.a12 ⟨by omega, by omega⟩ ?_
  try simp only [hM.1, e12]
  refine jJ_icmp_ne (pc := 23) (tgt := 30) dX7_isAs_23 (by decide) (fun c23 => ?_) (fun c23 => ?_)
  · have hne : ¬ (1 < (made mk (xNm x i)).2 ∧ (made mk (xNm x i)).1 = xNm x i) := fun z => c23 (by rw [z.2]; omega)
    rw [← jb_f hne]
    refine jJ_iconst (pc := 30) dX7_isAs_30 (by decide) ?_
    refine jJ_istore (pc := 31) (ls' := [_, _, _, _, _, _]) dX7_isAs_31 (Nat.le_of_ble_eq_true rfl) rfl ?_
    refine jJ_iconst (pc := 33) dX7_isAs_33 (by decide) ?_
    refine jJ_istore (pc := 34) (ls' := [_, _, _, _, _, _]) dX7_isAs_34 (Nat.le_of_ble_eq_true rfl) rfl ?_
    refine jJ_iload (pc := 36) dX7_isAs_36 rfl ?_
    refine jJ_aload_n (pc := 38) dX7_isAs_38 rfl ?_
    refine jJ_geti (pc := 39) dX7_isAs_39 fX7_273 rfl hR.1 ?_
    try simp only [hM.1]
    refine jJ_icmp_ge (pc := 42) (tgt := 99) dX7_isAs_42 (by decide) (fun c42 => ?_) (fun c42 => ?_)
    · refine jJ_iload (pc := 99) dX7_isAs_99 rfl ?_
      refine jJ_if_eq (pc := 101) (tgt := 116) dX7_isAs_101 (by decide) (fun c101 => ?_) (fun c101 => ?_)
      · refine jJ_iconst (pc := 116) dX7_isAs_116 (by decide) ?_
        refine jJ_zret (pc := 117) dX7_isAs_117 rfl (by decide) ?_
        exact ⟨rfl, rfl, hMF⟩
      · exact absurd rfl c101
    · refine jJ_iload (pc := 45) dX7_isAs_45 rfl ?_
      refine jJ_if_eq (pc := 47) (tgt := 99) dX7_isAs_47 (by decide) (fun c47 => ?_) (fun c47 => ?_)
      · refine jJ_iload (pc := 99) dX7_isAs_99 rfl ?_
        refine jJ_if_eq (pc := 101) (tgt := 116) dX7_isAs_101 (by decide) (fun c101 => ?_) (fun c101 => ?_)
        · refine jJ_iconst (pc := 116) dX7_isAs_116 (by decide) ?_
          refine jJ_zret (pc := 117) dX7_isAs_117 rfl (by decide) ?_
          exact ⟨rfl, rfl, hMF⟩
        · exact absurd rfl c101
      · exact absurd rfl c47
  · refine jJ_iconst (pc := 26) dX7_isAs_26 (by decide) ?_
    refine jJ_goto (pc := 27) (tgt := 31) dX7_isAs_27 (by decide) ?_
    refine jJ_istore (pc := 31) (ls' := [_, _, _, _, _, _]) dX7_isAs_31 (Nat.le_of_ble_eq_true rfl) rfl ?_
    refine jJ_iconst (pc := 33) dX7_isAs_33 (by decide) ?_
    refine jJ_istore (pc := 34) (ls' := [_, _, _, _, _, _]) dX7_isAs_34 (Nat.le_of_ble_eq_true rfl) rfl ?_
    refine jJ_mono (as_lp (d := d) (mk := mk) hR hM hml hT0 hW ht hi (by omega) (made mk (xNm x i)).1.length 0 (by omega)) ?_
    rintro v I' P' ⟨rfl, rfl, rfl⟩
    refine ⟨rfl, congrArg (fun v => some (ji v)) (jb_cg ?_), hMF⟩
    rw [rowF_gd, and_comm, show (made mk (xNm x i)).1.length = (xEn x i - xSt x i).toNat by omega]
    exact Iff.rfl
end JRK
