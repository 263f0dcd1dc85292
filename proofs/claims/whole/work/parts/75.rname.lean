section JRN
variable {E : jE} {I : jI} {P : jP} {d m t i : Nat} {a : Nat → Nat} {x : TX}
/-- the bytes of the i-th TOKEN -/
def xNm (x : TX) (i : Nat) : List Int := rowF (xF x) (xSt x i).toNat (xEn x i - xSt x i).toNat
theorem rowF_ap {f : Nat → Int} : ∀ (k j i : Nat), rowF f i (k + j) = rowF f i k ++ rowF f (i + k) j
  | 0, j, i => by simp [rowF]
  | k + 1, j, i => by
    rw [show k + 1 + j = (k + j) + 1 by omega]
    simp only [rowF, List.cons_append]
    rw [rowF_ap k j (i + 1), show i + 1 + k = i + (k + 1) by omega]
theorem rowF_at {f : Nat → Int} : ∀ (k i j : Nat), j < k → (rowF f i k).getD j 0 = f (i + j)
  | 0, i, j, h => absurd h (by omega)
  | k + 1, i, 0, h => by simp [rowF]
  | k + 1, i, j + 1, h => by
    simp only [rowF, List.getD_cons_succ]
    rw [rowF_at k (i + 1) j (by omega), show i + 1 + j = i + (j + 1) by omega]
theorem RT.g12n (h : RT I a t x) (hW : WX x) (hi : i < (xT x).length) : I (a 12) (201 * (t : Int) + (i : Int)).toNat = ((xEn x i - xSt x i).toNat : Int) := by
  have := (hW.tk hi).1
  have e := h.g12 hi
  unfold rg at e
  rw [e]
  omega
theorem RT.g11n (h : RT I a t x) (hi : i < (xT x).length) : I (a 11) (201 * (t : Int) + (i : Int)).toNat = xSt x i := h.g11 hi
theorem RT.byn (h : RT I a t x) (hW : WX x) (hi : i < (xT x).length) {k : Nat} (hk : k < (xEn x i - xSt x i).toNat) : I (a 6) (800 * (t : Int) + xSt x i + (k : Int)).toNat = xF x ((xSt x i).toNat + k) := by
  have t1 := (hW.tk hi).1
  have e := h.by (p := xSt x i + (k : Int)) (by omega)
  unfold rby at e
  rw [← Int.add_assoc] at e
  rw [e, show (xSt x i + (k : Int)).toNat = (xSt x i).toNat + k by omega]
theorem same_lp {u j : Nat} {y : TX} (hR : RfL E P m a) (hT : RT I a t x) (hW : WX x) (ht : t < 12) (hi : i < (xT x).length) (hU : RT I a u y) (hV : WX y) (hu : u < 12) (hj : j < (xT y).length) (hlen : (xEn x i - xSt x i).toNat = (xEn y j - xSt y j).toNat) :
    ∀ (k q : Nat), q + k = (xEn x i - xSt x i).toNat → jJ E yX7_isSame.cls cX7_isSame 7 (some .boolean) (jRm d) (jZ E (jD (some (ji (jb (rowF (xF x) ((xSt x i).toNat + q) k = rowF (xF y) ((xSt y j).toNat + q) k)))) I P)) 0 0 38 [some (jp m), some (ji (t : Int)), some (ji (i : Int)), some (ji (u : Int)), some (ji (j : Int)), some (ji 1), some (ji (q : Int))] [] I P := by
  have l1 := hW.2.2.2.1
  have l2 := hV.2.2.2.1
  have t1 := (hW.tk hi).1
  have t2 := (hV.tk hj).1
  have e12 := hT.g12n hW hi
  have e11 := hT.g11n hi
  have f11 := hU.g11n hj
  intro k
  induction k with
  | zero =>
    intro q hq
    refine jJ_iload (pc := 38) dX7_isSame_38 rfl ?_
    refine jJ_aload_n (pc := 40) dX7_isSame_40 rfl ?_
    refine jJ_getr (pc := 41) dX7_isSame_41 fX7_39 rfl hR.1 hR.p12 ?_
    try simp only [e12]
    refine jJ_sipush (pc := 44) dX7_isSame_44 (by decide) ?_
    refine jJ_iload_n (pc := 47) dX7_isSame_47 rfl ?_
    refine jJ_imul (pc := 48) dX7_isSame_48 ⟨by omega, by omega⟩ ?_
    refine jJ_iload_n (pc := 49) dX7_isSame_49 rfl ?_
    refine jJ_iadd (pc := 50) dX7_isSame_50 ⟨by omega, by omega⟩ ?_
    refine jJ_iald (pc := 51) dX7_isSame_51 hR.a12 ⟨by omega, by omega⟩ ?_
    try simp only [e12]
    refine jJ_icmp_ge (pc := 52) (tgt := 129) dX7_isSame_52 (by decide) (fun c52 => ?_) (fun c52 => ?_)
    · refine jJ_iload (pc := 129) dX7_isSame_129 rfl ?_
      refine jJ_zret (pc := 131) dX7_isSame_131 rfl (by decide) ?_
      exact ⟨by simp [rowF, jb], rfl, rfl⟩
    · exfalso
      omega
  | succ k ih =>
    intro q hq
    have b1 := hT.byn hW hi (k := q) (by omega)
    have b2 := hU.byn hV hj (k := q) (by omega)
    refine jJ_iload (pc := 38) dX7_isSame_38 rfl ?_
    refine jJ_aload_n (pc := 40) dX7_isSame_40 rfl ?_
    refine jJ_getr (pc := 41) dX7_isSame_41 fX7_39 rfl hR.1 hR.p12 ?_
    try simp only [e12]
    refine jJ_sipush (pc := 44) dX7_isSame_44 (by decide) ?_
    refine jJ_iload_n (pc := 47) dX7_isSame_47 rfl ?_
    refine jJ_imul (pc := 48) dX7_isSame_48 ⟨by omega, by omega⟩ ?_
    refine jJ_iload_n (pc := 49) dX7_isSame_49 rfl ?_
    refine jJ_iadd (pc := 50) dX7_isSame_50 ⟨by omega, by omega⟩ ?_
    refine jJ_iald (pc := 51) dX7_isSame_51 hR.a12 ⟨by omega, by omega⟩ ?_
    try simp only [e12]
    refine jJ_icmp_ge (pc := 52) (tgt := 129) dX7_isSame_52 (by decide) (fun c52 => ?_) (fun c52 => ?_)
    · exfalso
      omega
    · refine jJ_iload (pc := 55) dX7_isSame_55 rfl ?_
      refine jJ_if_eq (pc := 57) (tgt := 129) dX7_isSame_57 (by decide) (fun c57 => ?_) (fun c57 => ?_)
      · exact absurd c57 (by decide)
      · refine jJ_aload_n (pc := 60) dX7_isSame_60 rfl ?_
        refine jJ_getr (pc := 61) dX7_isSame_61 fX7_21 rfl hR.1 hR.p6 ?_
        try simp only [e11, b1]
        refine jJ_sipush (pc := 64) dX7_isSame_64 (by decide) ?_
        refine jJ_iload_n (pc := 67) dX7_isSame_67 rfl ?_
        refine jJ_imul (pc := 68) dX7_isSame_68 ⟨by omega, by omega⟩ ?_
        refine jJ_aload_n (pc := 69) dX7_isSame_69 rfl ?_
        refine jJ_getr (pc := 70) dX7_isSame_70 fX7_36 rfl hR.1 hR.p11 ?_
        try simp only [e11, b1]
        refine jJ_sipush (pc := 73) dX7_isSame_73 (by decide) ?_
        refine jJ_iload_n (pc := 76) dX7_isSame_76 rfl ?_
        refine jJ_imul (pc := 77) dX7_isSame_77 ⟨by omega, by omega⟩ ?_
        refine jJ_iload_n (pc := 78) dX7_isSame_78 rfl ?_
        refine jJ_iadd (pc := 79) dX7_isSame_79 ⟨by omega, by omega⟩ ?_
        refine jJ_iald (pc := 80) dX7_isSame_80 hR.a11 ⟨by omega, by omega⟩ ?_
        try simp only [e11, b1]
        refine jJ_iadd (pc := 81) dX7_isSame_81 ⟨by omega, by omega⟩ ?_
        refine jJ_iload (pc := 82) dX7_isSame_82 rfl ?_
        refine jJ_iadd (pc := 84) dX7_isSame_84 ⟨by omega, by omega⟩ ?_
        refine jJ_iald (pc := 85) dX7_isSame_85 hR.a6 ⟨by omega, by omega⟩ ?_
        try simp only [e11, b1]
        refine jJ_aload_n (pc := 86) dX7_isSame_86 rfl ?_
        refine jJ_getr (pc := 87) dX7_isSame_87 fX7_21 rfl hR.1 hR.p6 ?_
        try simp only [f11, b2]
        refine jJ_sipush (pc := 90) dX7_isSame_90 (by decide) ?_
        refine jJ_iload_n (pc := 93) dX7_isSame_93 rfl ?_
        refine jJ_imul (pc := 94) dX7_isSame_94 ⟨by omega, by omega⟩ ?_
        refine jJ_aload_n (pc := 95) dX7_isSame_95 rfl ?_
        refine jJ_getr (pc := 96) dX7_isSame_96 fX7_36 rfl hR.1 hR.p11 ?_
        try simp only [f11, b2]
        refine jJ_sipush (pc := 99) dX7_isSame_99 (by decide) ?_
        refine jJ_iload_n (pc := 102) dX7_isSame_102 rfl ?_
        refine jJ_imul (pc := 103) dX7_isSame_103 ⟨by omega, by omega⟩ ?_
        refine jJ_iload (pc := 104) dX7_isSame_104 rfl ?_
        refine jJ_iadd (pc := 106) dX7_isSame_106 ⟨by omega, by omega⟩ ?_
        refine jJ_iald (pc := 107) dX7_isSame_107 hR.a11 ⟨by omega, by omega⟩ ?_
        try simp only [f11, b2]
        refine jJ_iadd (pc := 108) dX7_isSame_108 ⟨by omega, by omega⟩ ?_
        refine jJ_iload (pc := 109) dX7_isSame_109 rfl ?_
        refine jJ_iadd (pc := 111) dX7_isSame_111 ⟨by omega, by omega⟩ ?_
        refine jJ_iald (pc := 112) dX7_isSame_112 hR.a6 ⟨by omega, by omega⟩ ?_
        try simp only [f11, b2]
        refine jJ_icmp_ne (pc := 113) (tgt := 120) dX7_isSame_113 (by decide) (fun c113 => ?_) (fun c113 => ?_)
        · refine jJ_iconst (pc := 120) dX7_isSame_120 (by decide) ?_
          refine jJ_istore (pc := 121) (ls' := [_, _, _, _, _, _, _]) dX7_isSame_121 (Nat.le_of_ble_eq_true rfl) rfl ?_
          refine jJ_iinc (pc := 123) (ls' := [_, _, _, _, _, _, _]) dX7_isSame_123 rfl ⟨by omega, by omega⟩ rfl ?_
          refine jJ_goto (pc := 126) (tgt := 38) dX7_isSame_126 (by decide) ?_
          have hne : ¬ rowF (xF x) ((xSt x i).toNat + q) (k + 1) = rowF (xF y) ((xSt y j).toNat + q) (k + 1) := fun z => c113 (by simp only [rowF] at z; exact (List.cons.inj z).1)
          rw [← jb_f hne]
          refine jJ_iload (pc := 38) dX7_isSame_38 rfl ?_
          refine jJ_aload_n (pc := 40) dX7_isSame_40 rfl ?_
          refine jJ_getr (pc := 41) dX7_isSame_41 fX7_39 rfl hR.1 hR.p12 ?_
          try simp only [e12]
          refine jJ_sipush (pc := 44) dX7_isSame_44 (by decide) ?_
          refine jJ_iload_n (pc := 47) dX7_isSame_47 rfl ?_
          refine jJ_imul (pc := 48) dX7_isSame_48 ⟨by omega, by omega⟩ ?_
          refine jJ_iload_n (pc := 49) dX7_isSame_49 rfl ?_
          refine jJ_iadd (pc := 50) dX7_isSame_50 ⟨by omega, by omega⟩ ?_
          refine jJ_iald (pc := 51) dX7_isSame_51 hR.a12 ⟨by omega, by omega⟩ ?_
          try simp only [e12]
          refine jJ_icmp_ge (pc := 52) (tgt := 129) dX7_isSame_52 (by decide) (fun c52 => ?_) (fun c52 => ?_)
          · refine jJ_iload (pc := 129) dX7_isSame_129 rfl ?_
            refine jJ_zret (pc := 131) dX7_isSame_131 rfl (by decide) ?_
            exact ⟨rfl, rfl, rfl⟩
          · refine jJ_iload (pc := 55) dX7_isSame_55 rfl ?_
            refine jJ_if_eq (pc := 57) (tgt := 129) dX7_isSame_57 (by decide) (fun c57 => ?_) (fun c57 => ?_)
            · refine jJ_iload (pc := 129) dX7_isSame_129 rfl ?_
              refine jJ_zret (pc := 131) dX7_isSame_131 rfl (by decide) ?_
              exact ⟨rfl, rfl, rfl⟩
            · exact absurd rfl c57
        · refine jJ_iconst (pc := 116) dX7_isSame_116 (by decide) ?_
          refine jJ_goto (pc := 117) (tgt := 121) dX7_isSame_117 (by decide) ?_
          refine jJ_istore (pc := 121) (ls' := [_, _, _, _, _, _, _]) dX7_isSame_121 (Nat.le_of_ble_eq_true rfl) rfl ?_
          refine jJ_iinc (pc := 123) (ls' := [_, _, _, _, _, _, _]) dX7_isSame_123 rfl ⟨by omega, by omega⟩ rfl ?_
          refine jJ_goto (pc := 126) (tgt := 38) dX7_isSame_126 (by decide) ?_
          have hiff : (rowF (xF x) ((xSt x i).toNat + q) (k + 1) = rowF (xF y) ((xSt y j).toNat + q) (k + 1)) ↔ (rowF (xF x) ((xSt x i).toNat + (q + 1)) k = rowF (xF y) ((xSt y j).toNat + (q + 1)) k) := by
            simp only [rowF]
            rw [c113, Nat.add_assoc, Nat.add_assoc]
            constructor
            · intro z; exact (List.cons.inj z).2
            · intro z; rw [z]
          rw [jb_cg hiff]
          exact ih (q + 1) (by omega)
theorem x_isSame {u j : Nat} {y : TX} (hR : RfL E P m a) (hT : RT I a t x) (hW : WX x) (ht : t < 12) (hi : i < (xT x).length) (hU : RT I a u y) (hV : WX y) (hu : u < 12) (hj : j < (xT y).length) :
    jC E yX7_isSame cX7_isSame 7 (some .boolean) d [jp m, ji (t : Int), ji (i : Int), ji (u : Int), ji (j : Int)] I P (jD (some (ji (jb (xNm x i = xNm y j)))) I P) := by
  have l1 := hW.2.2.2.1
  have l2 := hV.2.2.2.1
  have e12 := hT.g12n hW hi
  have f12 := hU.g12n hV hj
  refine jC_intro (by decide +kernel) (by simp [jc, va_rf, Value.category]) (Nat.le_of_ble_eq_true rfl) ?_
  refine jJ_aload_n (pc := 0) dX7_isSame_0 rfl ?_
  refine jJ_getr (pc := 1) dX7_isSame_1 fX7_39 rfl hR.1 hR.p12 ?_
  try simp only [e12]
  refine jJ_sipush (pc := 4) dX7_isSame_4 (by decide) ?_
  refine jJ_iload_n (pc := 7) dX7_isSame_7 rfl ?_
  refine jJ_imul (pc := 8) dX7_isSame_8 ⟨by omega, by omega⟩ ?_
  refine jJ_iload_n (pc := 9) dX7_isSame_9 rfl ?_
  refine jJ_iadd (pc := 10) dX7_isSame_10 ⟨by omega, by omega⟩ ?_
  refine jJ_iald (pc := 11) dX7_isSame_11 hR.a12 ⟨by omega, by omega⟩ ?_
  try simp only [e12]
  refine jJ_aload_n (pc := 12) dX7_isSame_12 rfl ?_
  refine jJ_getr (pc := 13) dX7_isSame_13 fX7_39 rfl hR.1 hR.p12 ?_
  try simp only [f12]
  refine jJ_sipush (pc := 16) dX7_isSame_16 (by decide) ?_
  refine jJ_iload_n (pc := 19) dX7_isSame_19 rfl ?_
  refine jJ_imul (pc := 20) dX7_isSame_20 ⟨by omega, by omega⟩ ?_
  refine jJ_iload (pc := 21) dX7_isSame_21 rfl ?_
  refine jJ_iadd (pc := 23) dX7_isSame_23 ⟨by omega, by omega⟩ ?_
  refine jJ_iald (pc := 24) dX7_isSame_24 hR.a12 ⟨by omega, by omega⟩ ?_
  try simp only [f12]
  refine jJ_icmp_ne (pc := 25) (tgt := 32) dX7_isSame_25 (by decide) (fun c25 => ?_) (fun c25 => ?_)
  · refine jJ_iconst (pc := 32) dX7_isSame_32 (by decide) ?_
    refine jJ_istore (pc := 33) (ls' := [_, _, _, _, _, _, _]) dX7_isSame_33 (Nat.le_of_ble_eq_true rfl) rfl ?_
    refine jJ_iconst (pc := 35) dX7_isSame_35 (by decide) ?_
    refine jJ_istore (pc := 36) (ls' := [_, _, _, _, _, _, _]) dX7_isSame_36 (Nat.le_of_ble_eq_true rfl) rfl ?_
    have hne : ¬ xNm x i = xNm y j := fun z => c25 (by have := congrArg List.length z; unfold xNm at this; rw [rowF_len, rowF_len] at this; omega)
    rw [← jb_f hne]
    refine jJ_iload (pc := 38) dX7_isSame_38 rfl ?_
    refine jJ_aload_n (pc := 40) dX7_isSame_40 rfl ?_
    refine jJ_getr (pc := 41) dX7_isSame_41 fX7_39 rfl hR.1 hR.p12 ?_
    try simp only [e12]
    refine jJ_sipush (pc := 44) dX7_isSame_44 (by decide) ?_
    refine jJ_iload_n (pc := 47) dX7_isSame_47 rfl ?_
    refine jJ_imul (pc := 48) dX7_isSame_48 ⟨by omega, by omega⟩ ?_
    refine jJ_iload_n (pc := 49) dX7_isSame_49 rfl ?_
    refine jJ_iadd (pc := 50) dX7_isSame_50 ⟨by omega, by omega⟩ ?_
    refine jJ_iald (pc := 51) dX7_isSame_51 hR.a12 ⟨by omega, by omega⟩ ?_
    try simp only [e12]
    refine jJ_icmp_ge (pc := 52) (tgt := 129) dX7_isSame_52 (by decide) (fun c52 => ?_) (fun c52 => ?_)
    · refine jJ_iload (pc := 129) dX7_isSame_129 rfl ?_
      refine jJ_zret (pc := 131) dX7_isSame_131 rfl (by decide) ?_
      exact ⟨rfl, rfl, rfl⟩
    · refine jJ_iload (pc := 55) dX7_isSame_55 rfl ?_
      refine jJ_if_eq (pc := 57) (tgt := 129) dX7_isSame_57 (by decide) (fun c57 => ?_) (fun c57 => ?_)
      · refine jJ_iload (pc := 129) dX7_isSame_129 rfl ?_
        refine jJ_zret (pc := 131) dX7_isSame_131 rfl (by decide) ?_
        exact ⟨rfl, rfl, rfl⟩
      · exact absurd rfl c57
  · refine jJ_iconst (pc := 28) dX7_isSame_28 (by decide) ?_
    refine jJ_goto (pc := 29) (tgt := 33) dX7_isSame_29 (by decide) ?_
    refine jJ_istore (pc := 33) (ls' := [_, _, _, _, _, _, _]) dX7_isSame_33 (Nat.le_of_ble_eq_true rfl) rfl ?_
    refine jJ_iconst (pc := 35) dX7_isSame_35 (by decide) ?_
    refine jJ_istore (pc := 36) (ls' := [_, _, _, _, _, _, _]) dX7_isSame_36 (Nat.le_of_ble_eq_true rfl) rfl ?_
    have k := same_lp (d := d) hR hT hW ht hi hU hV hu hj (by omega) (xEn x i - xSt x i).toNat 0 (by omega)
    have e : (rowF (xF x) ((xSt x i).toNat + 0) (xEn x i - xSt x i).toNat = rowF (xF y) ((xSt y j).toNat + 0) (xEn x i - xSt x i).toNat) ↔ xNm x i = xNm y j := by
      unfold xNm
      rw [show (xEn y j - xSt y j).toNat = (xEn x i - xSt x i).toNat by omega]
      rfl
    rw [jb_cg e] at k
    exact k
/-- how a TOKEN lies in its text -/
theorem WX.sc (h : WX x) (hi : i < (xT x).length) : ∃ j, (xSt x i).toNat = tkS (xF x) (xN x) j ∧ (xEn x i - xSt x i).toNat = tkE (xF x) (xN x) j - tkS (xF x) (xN x) j ∧ xSg x i = tkG (xF x) (xN x) j := by
  obtain ⟨⟨j, e1, e2, e3, -⟩, -⟩ := h.2.2.2.2.1 i hi
  refine ⟨j, ?_, ?_, e3⟩
  · show (ti (xT x) i).1.toNat = _; rw [e1]; omega
  · show ((ti (xT x) i).2.1 - (ti (xT x) i).1).toNat = _; rw [e1, e2]; omega
theorem word_lp {q : Nat} (hR : RfL E P m a) (hT : RT I a t x) (hW : WX x) (ht : t < 12) (hi : i < (xT x).length) (hq : q < 15) (hlen : (xEn x i - xSt x i).toNat = sLn q) (hd : 4 ≤ d) :
    ∀ (k j : Nat), j + k = sLn q → jJ E yX7_isWordAt.cls cX7_isWordAt 6 (some .boolean) (jRm d) (jZ E (jD (some (ji (jb (allE (xF x) (sCh q) ((xSt x i).toNat + j) j k = true)))) I P)) 0 0 29 [some (jp m), some (ji (t : Int)), some (ji (i : Int)), some (jp (eSk E q)), some (ji 1), some (ji (j : Int))] [] I P := by
  have hl := sLn_ok q hq
  have l1 := hW.2.2.2.1
  have t1 := (hW.tk hi).1
  have e11 := hT.g11n hi
  intro k
  induction k with
  | zero =>
    intro j hj
    refine jJ_iload (pc := 29) dX7_isWordAt_29 rfl ?_
    refine jJ_aload_n (pc := 31) dX7_isWordAt_31 rfl ?_
    refine jJ_callVd (pc := 32) (as := []) dX7_isWordAt_32 mX7_122 (Or.inr ⟨rfl, q, hq, rfl⟩) (Nat.le_of_ble_eq_true rfl) (jRm_ok (by omega) (by decide)) (c_len (d := d - 1) hq (by omega)) ?_
    refine jJ_icmp_ge (pc := 35) (tgt := 91) dX7_isWordAt_35 (by decide) (fun c35 => ?_) (fun c35 => ?_)
    · refine jJ_iload (pc := 91) dX7_isWordAt_91 rfl ?_
      refine jJ_zret (pc := 93) dX7_isWordAt_93 rfl (by decide) ?_
      exact ⟨rfl, rfl, rfl⟩
    · exfalso
      omega
  | succ k ih =>
    intro j hj
    have b1 := hT.byn hW hi (k := j) (by omega)
    refine jJ_iload (pc := 29) dX7_isWordAt_29 rfl ?_
    refine jJ_aload_n (pc := 31) dX7_isWordAt_31 rfl ?_
    refine jJ_callVd (pc := 32) (as := []) dX7_isWordAt_32 mX7_122 (Or.inr ⟨rfl, q, hq, rfl⟩) (Nat.le_of_ble_eq_true rfl) (jRm_ok (by omega) (by decide)) (c_len (d := d - 1) hq (by omega)) ?_
    refine jJ_icmp_ge (pc := 35) (tgt := 91) dX7_isWordAt_35 (by decide) (fun c35 => ?_) (fun c35 => ?_)
    · exfalso
      omega
    · refine jJ_iload (pc := 38) dX7_isWordAt_38 rfl ?_
      refine jJ_if_eq (pc := 40) (tgt := 91) dX7_isWordAt_40 (by decide) (fun c40 => ?_) (fun c40 => ?_)
      · exact absurd c40 (by decide)
      · refine jJ_aload_n (pc := 43) dX7_isWordAt_43 rfl ?_
        refine jJ_getr (pc := 44) dX7_isWordAt_44 fX7_21 rfl hR.1 hR.p6 ?_
        try simp only [e11, b1]
        refine jJ_sipush (pc := 47) dX7_isWordAt_47 (by decide) ?_
        refine jJ_iload_n (pc := 50) dX7_isWordAt_50 rfl ?_
        refine jJ_imul (pc := 51) dX7_isWordAt_51 ⟨by omega, by omega⟩ ?_
        refine jJ_aload_n (pc := 52) dX7_isWordAt_52 rfl ?_
        refine jJ_getr (pc := 53) dX7_isWordAt_53 fX7_36 rfl hR.1 hR.p11 ?_
        try simp only [e11, b1]
        refine jJ_sipush (pc := 56) dX7_isWordAt_56 (by decide) ?_
        refine jJ_iload_n (pc := 59) dX7_isWordAt_59 rfl ?_
        refine jJ_imul (pc := 60) dX7_isWordAt_60 ⟨by omega, by omega⟩ ?_
        refine jJ_iload_n (pc := 61) dX7_isWordAt_61 rfl ?_
        refine jJ_iadd (pc := 62) dX7_isWordAt_62 ⟨by omega, by omega⟩ ?_
        refine jJ_iald (pc := 63) dX7_isWordAt_63 hR.a11 ⟨by omega, by omega⟩ ?_
        try simp only [e11, b1]
        refine jJ_iadd (pc := 64) dX7_isWordAt_64 ⟨by omega, by omega⟩ ?_
        refine jJ_iload (pc := 65) dX7_isWordAt_65 rfl ?_
        refine jJ_iadd (pc := 67) dX7_isWordAt_67 ⟨by omega, by omega⟩ ?_
        refine jJ_iald (pc := 68) dX7_isWordAt_68 hR.a6 ⟨by omega, by omega⟩ ?_
        try simp only [e11, b1]
        refine jJ_aload_n (pc := 69) dX7_isWordAt_69 rfl ?_
        refine jJ_iload (pc := 70) dX7_isWordAt_70 rfl ?_
        refine jJ_callVd (pc := 72) (as := [_]) dX7_isWordAt_72 mX7_126 (Or.inr ⟨rfl, q, hq, rfl⟩) (Nat.le_of_ble_eq_true rfl) (jRm_ok (by omega) (by decide)) (c_charAt (d := d - 1) hq (by omega) (by omega)) ?_
        refine jJ_icmp_ne (pc := 75) (tgt := 82) dX7_isWordAt_75 (by decide) (fun c75 => ?_) (fun c75 => ?_)
        · refine jJ_iconst (pc := 82) dX7_isWordAt_82 (by decide) ?_
          refine jJ_istore (pc := 83) (ls' := [_, _, _, _, _, _]) dX7_isWordAt_83 (Nat.le_of_ble_eq_true rfl) rfl ?_
          refine jJ_iinc (pc := 85) (ls' := [_, _, _, _, _, _]) dX7_isWordAt_85 rfl ⟨by omega, by omega⟩ rfl ?_
          refine jJ_goto (pc := 88) (tgt := 29) dX7_isWordAt_88 (by decide) ?_
          rw [allE_f c75]
          refine jJ_iload (pc := 29) dX7_isWordAt_29 rfl ?_
          refine jJ_aload_n (pc := 31) dX7_isWordAt_31 rfl ?_
          refine jJ_callVd (pc := 32) (as := []) dX7_isWordAt_32 mX7_122 (Or.inr ⟨rfl, q, hq, rfl⟩) (Nat.le_of_ble_eq_true rfl) (jRm_ok (by omega) (by decide)) (c_len (d := d - 1) hq (by omega)) ?_
          refine jJ_icmp_ge (pc := 35) (tgt := 91) dX7_isWordAt_35 (by decide) (fun c35 => ?_) (fun c35 => ?_)
          · refine jJ_iload (pc := 91) dX7_isWordAt_91 rfl ?_
            refine jJ_zret (pc := 93) dX7_isWordAt_93 rfl (by decide) ?_
            exact ⟨rfl, rfl, rfl⟩
          · refine jJ_iload (pc := 38) dX7_isWordAt_38 rfl ?_
            refine jJ_if_eq (pc := 40) (tgt := 91) dX7_isWordAt_40 (by decide) (fun c40 => ?_) (fun c40 => ?_)
            · refine jJ_iload (pc := 91) dX7_isWordAt_91 rfl ?_
              refine jJ_zret (pc := 93) dX7_isWordAt_93 rfl (by decide) ?_
              exact ⟨rfl, rfl, rfl⟩
            · exact absurd rfl c40
        · refine jJ_iconst (pc := 78) dX7_isWordAt_78 (by decide) ?_
          refine jJ_goto (pc := 79) (tgt := 83) dX7_isWordAt_79 (by decide) ?_
          refine jJ_istore (pc := 83) (ls' := [_, _, _, _, _, _]) dX7_isWordAt_83 (Nat.le_of_ble_eq_true rfl) rfl ?_
          refine jJ_iinc (pc := 85) (ls' := [_, _, _, _, _, _]) dX7_isWordAt_85 rfl ⟨by omega, by omega⟩ rfl ?_
          refine jJ_goto (pc := 88) (tgt := 29) dX7_isWordAt_88 (by decide) ?_
          rw [allE_t c75]
          exact ih (j + 1) (by omega)
theorem x_isWordAt {q : Nat} {c : Int} (hR : RfL E P m a) (hT : RT I a t x) (hW : WX x) (ht : t < 12) (hi : i < (xT x).length) (hq : q < 15) (h4 : q ≠ 4) (hc : sgc q = c) (hd : 4 ≤ d) :
    jC E yX7_isWordAt cX7_isWordAt 6 (some .boolean) d [jp m, ji (t : Int), ji (i : Int), jp (eSk E q)] I P (jD (some (ji (jb (xSg x i = c)))) I P) := by
  have l1 := hW.2.2.2.1
  have e12 := hT.g12n hW hi
  obtain ⟨j, j1, j2, j3⟩ := hW.sc hi
  have hb := isB_tkG (g := xF x) (n := xN x) (j := j) hq h4 hW.1
  rw [← j2, ← j1, ← j3, hc, isB_iff] at hb
  refine jC_intro (by decide +kernel) (by simp [jc, va_rf, Value.category]) (Nat.le_of_ble_eq_true rfl) ?_
  refine jJ_aload_n (pc := 0) dX7_isWordAt_0 rfl ?_
  refine jJ_getr (pc := 1) dX7_isWordAt_1 fX7_39 rfl hR.1 hR.p12 ?_
  try simp only [e12]
  refine jJ_sipush (pc := 4) dX7_isWordAt_4 (by decide) ?_
  refine jJ_iload_n (pc := 7) dX7_isWordAt_7 rfl ?_
  refine jJ_imul (pc := 8) dX7_isWordAt_8 ⟨by omega, by omega⟩ ?_
  refine jJ_iload_n (pc := 9) dX7_isWordAt_9 rfl ?_
  refine jJ_iadd (pc := 10) dX7_isWordAt_10 ⟨by omega, by omega⟩ ?_
  refine jJ_iald (pc := 11) dX7_isWordAt_11 hR.a12 ⟨by omega, by omega⟩ ?_
  try simp only [e12]
  refine jJ_aload_n (pc := 12) dX7_isWordAt_12 rfl ?_
  refine jJ_callVd (pc := 13) (as := []) dX7_isWordAt_13 mX7_122 (Or.inr ⟨rfl, q, hq, rfl⟩) (Nat.le_of_ble_eq_true rfl) (jRm_ok (by omega) (by decide)) (c_len (d := d - 1) hq (by omega)) ?_
  refine jJ_icmp_ne (pc := 16) (tgt := 23) dX7_isWordAt_16 (by decide) (fun c16 => ?_) (fun c16 => ?_)
  · have hne : ¬ xSg x i = c := fun z => c16 (by have := (hb.mpr z).1; omega)
    rw [← jb_f hne]
    refine jJ_iconst (pc := 23) dX7_isWordAt_23 (by decide) ?_
    refine jJ_istore (pc := 24) (ls' := [_, _, _, _, _, _]) dX7_isWordAt_24 (Nat.le_of_ble_eq_true rfl) rfl ?_
    refine jJ_iconst (pc := 26) dX7_isWordAt_26 (by decide) ?_
    refine jJ_istore (pc := 27) (ls' := [_, _, _, _, _, _]) dX7_isWordAt_27 (Nat.le_of_ble_eq_true rfl) rfl ?_
    refine jJ_iload (pc := 29) dX7_isWordAt_29 rfl ?_
    refine jJ_aload_n (pc := 31) dX7_isWordAt_31 rfl ?_
    refine jJ_callVd (pc := 32) (as := []) dX7_isWordAt_32 mX7_122 (Or.inr ⟨rfl, q, hq, rfl⟩) (Nat.le_of_ble_eq_true rfl) (jRm_ok (by omega) (by decide)) (c_len (d := d - 1) hq (by omega)) ?_
    refine jJ_icmp_ge (pc := 35) (tgt := 91) dX7_isWordAt_35 (by decide) (fun c35 => ?_) (fun c35 => ?_)
    · refine jJ_iload (pc := 91) dX7_isWordAt_91 rfl ?_
      refine jJ_zret (pc := 93) dX7_isWordAt_93 rfl (by decide) ?_
      exact ⟨rfl, rfl, rfl⟩
    · refine jJ_iload (pc := 38) dX7_isWordAt_38 rfl ?_
      refine jJ_if_eq (pc := 40) (tgt := 91) dX7_isWordAt_40 (by decide) (fun c40 => ?_) (fun c40 => ?_)
      · refine jJ_iload (pc := 91) dX7_isWordAt_91 rfl ?_
        refine jJ_zret (pc := 93) dX7_isWordAt_93 rfl (by decide) ?_
        exact ⟨rfl, rfl, rfl⟩
      · exact absurd rfl c40
  · refine jJ_iconst (pc := 19) dX7_isWordAt_19 (by decide) ?_
    refine jJ_goto (pc := 20) (tgt := 24) dX7_isWordAt_20 (by decide) ?_
    refine jJ_istore (pc := 24) (ls' := [_, _, _, _, _, _]) dX7_isWordAt_24 (Nat.le_of_ble_eq_true rfl) rfl ?_
    refine jJ_iconst (pc := 26) dX7_isWordAt_26 (by decide) ?_
    refine jJ_istore (pc := 27) (ls' := [_, _, _, _, _, _]) dX7_isWordAt_27 (Nat.le_of_ble_eq_true rfl) rfl ?_
    have k := word_lp (d := d) hR hT hW ht hi hq (by omega) hd (sLn q) 0 (by omega)
    have e : (allE (xF x) (sCh q) ((xSt x i).toNat + 0) 0 (sLn q) = true) ↔ xSg x i = c := by
      rw [← hb]
      exact ⟨fun z => ⟨by omega, z⟩, fun z => z.2⟩
    rw [jb_cg e] at k
    exact k
theorem x_isNameAt (hR : RfL E P m a) (hT : RT I a t x) (hW : WX x) (ht : t < 12) (hi : i < (xT x).length) (hd : 5 ≤ d) :
    jC E yX7_isNameAt cX7_isNameAt 3 (some .boolean) d [jp m, ji (t : Int), ji (i : Int)] I P (jD (some (ji (jb (xSg x i = 1)))) I P) := by
  have l1 := hW.2.2.2.1
  have e13 : I (a 13) (201 * (t : Int) + (i : Int)).toNat = srt (xSg x i) := hT.g13 hi
  have q0 := srt_0 (x := xSg x i)
  refine jC_intro (by decide +kernel) (by simp [jc, va_rf, Value.category]) (Nat.le_of_ble_eq_true rfl) ?_
  refine jJ_aload_n (pc := 0) dX7_isNameAt_0 rfl ?_
  refine jJ_getr (pc := 1) dX7_isNameAt_1 fX7_42 rfl hR.1 hR.p13 ?_
  try simp only [e13]
  refine jJ_sipush (pc := 4) dX7_isNameAt_4 (by decide) ?_
  refine jJ_iload_n (pc := 7) dX7_isNameAt_7 rfl ?_
  refine jJ_imul (pc := 8) dX7_isNameAt_8 ⟨by omega, by omega⟩ ?_
  refine jJ_iload_n (pc := 9) dX7_isNameAt_9 rfl ?_
  refine jJ_iadd (pc := 10) dX7_isNameAt_10 ⟨by omega, by omega⟩ ?_
  refine jJ_iald (pc := 11) dX7_isNameAt_11 hR.a13 ⟨by omega, by omega⟩ ?_
  try simp only [e13]
  refine jJ_if_ne (pc := 12) (tgt := 63) dX7_isNameAt_12 (by decide) (fun c12 => ?_) (fun c12 => ?_)
  · try simp only [jb_z, jb_nz] at c12
    refine jJ_iconst (pc := 63) dX7_isNameAt_63 (by decide) ?_
    refine jJ_zret (pc := 64) dX7_isNameAt_64 rfl (by decide) ?_
    exact ⟨by first | (exfalso; omega) | rw [← jb_t (by omega)] | rw [← jb_f (by omega)], rfl, rfl⟩
  · try simp only [jb_z, jb_nz] at c12
    refine jJ_aload_n (pc := 15) dX7_isNameAt_15 rfl ?_
    refine jJ_iload_n (pc := 16) dX7_isNameAt_16 rfl ?_
    refine jJ_iload_n (pc := 17) dX7_isNameAt_17 rfl ?_
    refine jJ_ldcS (pc := 18) (i := 0) dX7_isNameAt_18 (by decide +kernel) ?_
    refine jJ_callVd (pc := 20) (as := [_, _, _]) dX7_isNameAt_20 mX7_285 (jRcv_of hR.1 rfl rfl) (Nat.le_of_ble_eq_true rfl) (jRm_ok (by omega) (by decide)) (x_isWordAt (d := d - 1) (c := 3) hR hT hW ht hi (by decide) (by decide) rfl (by omega)) ?_
    try simp only [e13]
    refine jJ_if_ne (pc := 23) (tgt := 63) dX7_isNameAt_23 (by decide) (fun c23 => ?_) (fun c23 => ?_)
    · try simp only [jb_z, jb_nz] at c23
      refine jJ_iconst (pc := 63) dX7_isNameAt_63 (by decide) ?_
      refine jJ_zret (pc := 64) dX7_isNameAt_64 rfl (by decide) ?_
      exact ⟨by first | (exfalso; omega) | rw [← jb_t (by omega)] | rw [← jb_f (by omega)], rfl, rfl⟩
    · try simp only [jb_z, jb_nz] at c23
      refine jJ_aload_n (pc := 26) dX7_isNameAt_26 rfl ?_
      refine jJ_iload_n (pc := 27) dX7_isNameAt_27 rfl ?_
      refine jJ_iload_n (pc := 28) dX7_isNameAt_28 rfl ?_
      refine jJ_ldcS (pc := 29) (i := 1) dX7_isNameAt_29 (by decide +kernel) ?_
      refine jJ_callVd (pc := 31) (as := [_, _, _]) dX7_isNameAt_31 mX7_285 (jRcv_of hR.1 rfl rfl) (Nat.le_of_ble_eq_true rfl) (jRm_ok (by omega) (by decide)) (x_isWordAt (d := d - 1) (c := 4) hR hT hW ht hi (by decide) (by decide) rfl (by omega)) ?_
      try simp only [e13]
      refine jJ_if_ne (pc := 34) (tgt := 63) dX7_isNameAt_34 (by decide) (fun c34 => ?_) (fun c34 => ?_)
      · try simp only [jb_z, jb_nz] at c34
        refine jJ_iconst (pc := 63) dX7_isNameAt_63 (by decide) ?_
        refine jJ_zret (pc := 64) dX7_isNameAt_64 rfl (by decide) ?_
        exact ⟨by first | (exfalso; omega) | rw [← jb_t (by omega)] | rw [← jb_f (by omega)], rfl, rfl⟩
      · try simp only [jb_z, jb_nz] at c34
        refine jJ_aload_n (pc := 37) dX7_isNameAt_37 rfl ?_
        refine jJ_iload_n (pc := 38) dX7_isNameAt_38 rfl ?_
        refine jJ_iload_n (pc := 39) dX7_isNameAt_39 rfl ?_
        refine jJ_ldcS (pc := 40) (i := 2) dX7_isNameAt_40 (by decide +kernel) ?_
        refine jJ_callVd (pc := 42) (as := [_, _, _]) dX7_isNameAt_42 mX7_285 (jRcv_of hR.1 rfl rfl) (Nat.le_of_ble_eq_true rfl) (jRm_ok (by omega) (by decide)) (x_isWordAt (d := d - 1) (c := 5) hR hT hW ht hi (by decide) (by decide) rfl (by omega)) ?_
        try simp only [e13]
        refine jJ_if_ne (pc := 45) (tgt := 63) dX7_isNameAt_45 (by decide) (fun c45 => ?_) (fun c45 => ?_)
        · try simp only [jb_z, jb_nz] at c45
          refine jJ_iconst (pc := 63) dX7_isNameAt_63 (by decide) ?_
          refine jJ_zret (pc := 64) dX7_isNameAt_64 rfl (by decide) ?_
          exact ⟨by first | (exfalso; omega) | rw [← jb_t (by omega)] | rw [← jb_f (by omega)], rfl, rfl⟩
        · try simp only [jb_z, jb_nz] at c45
          refine jJ_aload_n (pc := 48) dX7_isNameAt_48 rfl ?_
          refine jJ_iload_n (pc := 49) dX7_isNameAt_49 rfl ?_
          refine jJ_iload_n (pc := 50) dX7_isNameAt_50 rfl ?_
          refine jJ_ldcS (pc := 51) (i := 3) dX7_isNameAt_51 (by decide +kernel) ?_
          refine jJ_callVd (pc := 53) (as := [_, _, _]) dX7_isNameAt_53 mX7_285 (jRcv_of hR.1 rfl rfl) (Nat.le_of_ble_eq_true rfl) (jRm_ok (by omega) (by decide)) (x_isWordAt (d := d - 1) (c := 6) hR hT hW ht hi (by decide) (by decide) rfl (by omega)) ?_
          try simp only [e13]
          refine jJ_if_ne (pc := 56) (tgt := 63) dX7_isNameAt_56 (by decide) (fun c56 => ?_) (fun c56 => ?_)
          · try simp only [jb_z, jb_nz] at c56
            refine jJ_iconst (pc := 63) dX7_isNameAt_63 (by decide) ?_
            refine jJ_zret (pc := 64) dX7_isNameAt_64 rfl (by decide) ?_
            exact ⟨by first | (exfalso; omega) | rw [← jb_t (by omega)] | rw [← jb_f (by omega)], rfl, rfl⟩
          · try simp only [jb_z, jb_nz] at c56
            refine jJ_iconst (pc := 59) dX7_isNameAt_59 (by decide) ?_
            refine jJ_goto (pc := 60) (tgt := 64) dX7_isNameAt_60 (by decide) ?_
            refine jJ_zret (pc := 64) dX7_isNameAt_64 rfl (by decide) ?_
            exact ⟨by first | (exfalso; omega) | rw [← jb_t (by omega)] | rw [← jb_f (by omega)], rfl, rfl⟩
/-- alike(): the TOKENS from i on are the same -/
theorem ralk_loop {u : Nat} {y : TX} {n : Nat} (hR : RfL E P m a) (hT : RT I a t x) (hW : WX x) (ht : t < 12) (hU : RT I a u y) (hV : WX y) (hu : u < 12) (hn : n = (xT x).length) (hn2 : n = (xT y).length) (hd : 1 ≤ d) :
    ∀ (k i : Nat), i + k = n → jJ E yX7_alike.cls cX7_alike 5 (some .boolean) (jRm d) (jZ E (jD (some (ji (jb (alkV (xNm x) (xNm y) k i = true)))) I P)) 0 0 42 [some (jp m), some (ji (t : Int)), some (ji (u : Int)), some (ji 1), some (ji (i : Int))] [] I P := by
  have l1 := hW.2.2.2.1
  have e9 : I (a 9) ((t : Int).toNat) = ((xT x).length : Int) := by rw [Int.toNat_natCast]; exact hT.2.2.1
  intro k
  induction k with
  | zero =>
    intro i hi
    refine jJ_iload (pc := 42) dX7_alike_42 rfl ?_
    refine jJ_aload_n (pc := 44) dX7_alike_44 rfl ?_
    refine jJ_getr (pc := 45) dX7_alike_45 fX7_30 rfl hR.1 hR.p9 ?_
    try simp only [e9]
    refine jJ_iload_n (pc := 48) dX7_alike_48 rfl ?_
    refine jJ_iald (pc := 49) dX7_alike_49 hR.a9 ⟨by omega, by omega⟩ ?_
    try simp only [e9]
    refine jJ_icmp_ge (pc := 50) (tgt := 74) dX7_alike_50 (by decide) (fun c50 => ?_) (fun c50 => ?_)
    · refine jJ_iload_n (pc := 74) dX7_alike_74 rfl ?_
      refine jJ_zret (pc := 75) dX7_alike_75 rfl (by decide) ?_
      exact ⟨rfl, rfl, rfl⟩
    · exfalso
      omega
  | succ k ih =>
    intro i hi
    refine jJ_iload (pc := 42) dX7_alike_42 rfl ?_
    refine jJ_aload_n (pc := 44) dX7_alike_44 rfl ?_
    refine jJ_getr (pc := 45) dX7_alike_45 fX7_30 rfl hR.1 hR.p9 ?_
    try simp only [e9]
    refine jJ_iload_n (pc := 48) dX7_alike_48 rfl ?_
    refine jJ_iald (pc := 49) dX7_alike_49 hR.a9 ⟨by omega, by omega⟩ ?_
    try simp only [e9]
    refine jJ_icmp_ge (pc := 50) (tgt := 74) dX7_alike_50 (by decide) (fun c50 => ?_) (fun c50 => ?_)
    · exfalso
      omega
    · refine jJ_iload_n (pc := 53) dX7_alike_53 rfl ?_
      refine jJ_if_eq (pc := 54) (tgt := 74) dX7_alike_54 (by decide) (fun c54 => ?_) (fun c54 => ?_)
      · exact absurd c54 (by decide)
      · refine jJ_aload_n (pc := 57) dX7_alike_57 rfl ?_
        refine jJ_iload_n (pc := 58) dX7_alike_58 rfl ?_
        refine jJ_iload (pc := 59) dX7_alike_59 rfl ?_
        refine jJ_iload_n (pc := 61) dX7_alike_61 rfl ?_
        refine jJ_iload (pc := 62) dX7_alike_62 rfl ?_
        refine jJ_callVd (pc := 64) (as := [_, _, _, _]) dX7_alike_64 mX7_296 (jRcv_of hR.1 rfl rfl) (Nat.le_of_ble_eq_true rfl) (jRm_ok (by omega) (by decide)) (x_isSame (d := d - 1) hR hT hW ht (by omega) hU hV hu (by omega)) ?_
        refine jJ_istore_n (pc := 67) (ls' := [_, _, _, _, _]) dX7_alike_67 (Nat.le_of_ble_eq_true rfl) rfl ?_
        refine jJ_iinc (pc := 68) (ls' := [_, _, _, _, _]) dX7_alike_68 rfl ⟨by omega, by omega⟩ rfl ?_
        refine jJ_goto (pc := 71) (tgt := 42) dX7_alike_71 (by decide) ?_
        by_cases q : xNm x i = xNm y i
        · rw [← jb_t q, alkV, if_pos q]
          exact ih (i + 1) (by omega)
        · rw [← jb_f q, alkV, if_neg q]
          refine jJ_iload (pc := 42) dX7_alike_42 rfl ?_
          refine jJ_aload_n (pc := 44) dX7_alike_44 rfl ?_
          refine jJ_getr (pc := 45) dX7_alike_45 fX7_30 rfl hR.1 hR.p9 ?_
          try simp only [e9]
          refine jJ_iload_n (pc := 48) dX7_alike_48 rfl ?_
          refine jJ_iald (pc := 49) dX7_alike_49 hR.a9 ⟨by omega, by omega⟩ ?_
          try simp only [e9]
          refine jJ_icmp_ge (pc := 50) (tgt := 74) dX7_alike_50 (by decide) (fun c50 => ?_) (fun c50 => ?_)
          · refine jJ_iload_n (pc := 74) dX7_alike_74 rfl ?_
            refine jJ_zret (pc := 75) dX7_alike_75 rfl (by decide) ?_
            exact ⟨rfl, rfl, rfl⟩
          · refine jJ_iload_n (pc := 53) dX7_alike_53 rfl ?_
            refine jJ_if_eq (pc := 54) (tgt := 74) dX7_alike_54 (by decide) (fun c54 => ?_) (fun c54 => ?_)
            · refine jJ_iload_n (pc := 74) dX7_alike_74 rfl ?_
              refine jJ_zret (pc := 75) dX7_alike_75 rfl (by decide) ?_
              exact ⟨rfl, rfl, rfl⟩
            · exact absurd rfl c54
theorem r_alike {X : Nat → TX} {t u : Int} (hR : RfL E P m a) (hX : RTs I a X) (hd : 2 ≤ d) : jC E yX7_alike cX7_alike 5 (some .boolean) d [jp m, ji t, ji u] I P (fun v I' P' => P' = P ∧ ((rTh I a t ∧ rTh I a u ∧ v = some (ji (jb ((xT (X t.toNat)).length = (xT (X u.toNat)).length ∧ alkV (xNm (X t.toNat)) (xNm (X u.toNat)) (xT (X t.toNat)).length 0 = true))) ∧ I' = jput I m 0 0) ∨ (¬ (rTh I a t ∧ rTh I a u) ∧ v = some (ji 0) ∧ I' = jput I m 0 1))) := by
  have n9 := hR.n9
  have e5 : ∀ v, jput I m 0 v (a 5) = I (a 5) := fun v => jput_row hR.n5
  refine jC_intro (by decide +kernel) (by simp [jc, va_rf, Value.category]) (Nat.le_of_ble_eq_true rfl) ?_
  refine jJ_aload_n (pc := 0) dX7_alike_0 rfl ?_
  refine jJ_iload_n (pc := 1) dX7_alike_1 rfl ?_
  refine jJ_callVd (pc := 2) (as := [_]) dX7_alike_2 mX7_216 (jRcv_of hR.1 rfl rfl) (Nat.le_of_ble_eq_true rfl) (jRm_ok (by omega) (by decide)) (r_isThere (d := d - 1) hR (by omega)) ?_
  by_cases ht : 0 ≤ t ∧ t < 12 ∧ I (a 5) t.toNat ≠ 0
  · rw [← jb_t ht, thM_t ht]
    refine jJ_if_eq (pc := 5) (tgt := 16) dX7_alike_5 (by decide) (fun c5 => ?_) (fun c5 => ?_)
    · exact absurd c5 (by decide)
    · refine jJ_aload_n (pc := 8) dX7_alike_8 rfl ?_
      refine jJ_iload_n (pc := 9) dX7_alike_9 rfl ?_
      refine jJ_callVd (pc := 10) (as := [_]) dX7_alike_10 mX7_216 (jRcv_of hR.1 rfl rfl) (Nat.le_of_ble_eq_true rfl) (jRm_ok (by omega) (by decide)) (r_isThere (d := d - 1) hR (by omega)) ?_
      have eth : thM (jput I m 0 0) m a u = thM I m a u := by unfold thM; rw [e5, jput_jput]
      rw [e5, eth]
      by_cases hu : 0 ≤ u ∧ u < 12 ∧ I (a 5) u.toNat ≠ 0
      · rw [← jb_t hu, thM_t hu]
        obtain ⟨hT, hW⟩ := hX t.toNat (by omega) ht.2.2
        obtain ⟨hU, hV⟩ := hX u.toNat (by omega) hu.2.2
        have hT0 : RT (jput I m 0 0) a t.toNat (X t.toNat) := hT.cg (fun j h1 h2 => jput_row (hR.nm (rfK_515 j (by omega) h2)))
        have hU0 : RT (jput I m 0 0) a u.toNat (X u.toNat) := hU.cg (fun j h1 h2 => jput_row (hR.nm (rfK_515 j (by omega) h2)))
        obtain ⟨t', rfl⟩ : ∃ t' : Nat, t = (t' : Int) := ⟨t.toNat, by omega⟩
        obtain ⟨u', rfl⟩ : ∃ u' : Nat, u = (u' : Int) := ⟨u.toNat, by omega⟩
        rw [Int.toNat_natCast] at *
        have e9 : jput I m 0 0 (a 9) t' = ((xT (X t')).length : Int) := hT0.2.2.1
        have f9 : jput I m 0 0 (a 9) u' = ((xT (X u')).length : Int) := hU0.2.2.1
        have gT : rTh I a (t' : Int) := by rw [rTh, Int.toNat_natCast]; exact ht
        have gU : rTh I a (u' : Int) := by rw [rTh, Int.toNat_natCast]; exact hu
        refine jJ_if_ne (pc := 13) (tgt := 18) dX7_alike_13 (by decide) (fun c13 => ?_) (fun c13 => ?_)
        · refine jJ_aload_n (pc := 18) dX7_alike_18 rfl ?_
          refine jJ_getr (pc := 19) dX7_alike_19 fX7_30 rfl hR.1 hR.p9 ?_
          try simp only [Int.toNat_natCast, e9, f9]
          refine jJ_iload_n (pc := 22) dX7_alike_22 rfl ?_
          refine jJ_iald (pc := 23) dX7_alike_23 hR.a9 ⟨by omega, by omega⟩ ?_
          try simp only [Int.toNat_natCast, e9, f9]
          refine jJ_aload_n (pc := 24) dX7_alike_24 rfl ?_
          refine jJ_getr (pc := 25) dX7_alike_25 fX7_30 rfl hR.1 hR.p9 ?_
          try simp only [Int.toNat_natCast, e9, f9]
          refine jJ_iload_n (pc := 28) dX7_alike_28 rfl ?_
          refine jJ_iald (pc := 29) dX7_alike_29 hR.a9 ⟨by omega, by omega⟩ ?_
          try simp only [Int.toNat_natCast, e9, f9]
          refine jJ_icmp_ne (pc := 30) (tgt := 37) dX7_alike_30 (by decide) (fun c30 => ?_) (fun c30 => ?_)
          · refine jJ_iconst (pc := 37) dX7_alike_37 (by decide) ?_
            refine jJ_istore_n (pc := 38) (ls' := [_, _, _, _, _]) dX7_alike_38 (Nat.le_of_ble_eq_true rfl) rfl ?_
            refine jJ_iconst (pc := 39) dX7_alike_39 (by decide) ?_
            refine jJ_istore (pc := 40) (ls' := [_, _, _, _, _]) dX7_alike_40 (Nat.le_of_ble_eq_true rfl) rfl ?_
            refine jJ_iload (pc := 42) dX7_alike_42 rfl ?_
            refine jJ_aload_n (pc := 44) dX7_alike_44 rfl ?_
            refine jJ_getr (pc := 45) dX7_alike_45 fX7_30 rfl hR.1 hR.p9 ?_
            try simp only [Int.toNat_natCast, e9, f9]
            refine jJ_iload_n (pc := 48) dX7_alike_48 rfl ?_
            refine jJ_iald (pc := 49) dX7_alike_49 hR.a9 ⟨by omega, by omega⟩ ?_
            try simp only [Int.toNat_natCast, e9, f9]
            refine jJ_icmp_ge (pc := 50) (tgt := 74) dX7_alike_50 (by decide) (fun c50 => ?_) (fun c50 => ?_)
            · refine jJ_iload_n (pc := 74) dX7_alike_74 rfl ?_
              refine jJ_zret (pc := 75) dX7_alike_75 rfl (by decide) ?_
              exact ⟨rfl, Or.inl ⟨gT, gU, by rw [← jb_f (by omega)], rfl⟩⟩
            · refine jJ_iload_n (pc := 53) dX7_alike_53 rfl ?_
              refine jJ_if_eq (pc := 54) (tgt := 74) dX7_alike_54 (by decide) (fun c54 => ?_) (fun c54 => ?_)
              · refine jJ_iload_n (pc := 74) dX7_alike_74 rfl ?_
                refine jJ_zret (pc := 75) dX7_alike_75 rfl (by decide) ?_
                exact ⟨rfl, Or.inl ⟨gT, gU, by rw [← jb_f (by omega)], rfl⟩⟩
              · exact absurd rfl c54
          · refine jJ_iconst (pc := 33) dX7_alike_33 (by decide) ?_
            refine jJ_goto (pc := 34) (tgt := 38) dX7_alike_34 (by decide) ?_
            refine jJ_istore_n (pc := 38) (ls' := [_, _, _, _, _]) dX7_alike_38 (Nat.le_of_ble_eq_true rfl) rfl ?_
            refine jJ_iconst (pc := 39) dX7_alike_39 (by decide) ?_
            refine jJ_istore (pc := 40) (ls' := [_, _, _, _, _]) dX7_alike_40 (Nat.le_of_ble_eq_true rfl) rfl ?_
            refine jJ_mono (ralk_loop hR hT0 hW (by omega) hU0 hV (by omega) rfl (by omega) (by omega) (xT (X t')).length 0 (by omega)) ?_
            rintro v I' P' ⟨rfl, rfl, rfl⟩
            refine ⟨rfl, Or.inl ⟨gT, gU, congrArg (fun v => some (ji v)) (jb_cg ⟨fun z => ⟨by omega, z⟩, fun z => z.2⟩), rfl⟩⟩
        · exact absurd c13 (by decide)
      · rw [← jb_f hu, thM_f hu]
        refine jJ_if_ne (pc := 13) (tgt := 18) dX7_alike_13 (by decide) (fun c13 => ?_) (fun c13 => ?_)
        · exact absurd rfl c13
        · refine jJ_iconst (pc := 16) dX7_alike_16 (by decide) ?_
          refine jJ_zret (pc := 17) dX7_alike_17 rfl (Or.inl rfl) ?_
          exact ⟨rfl, Or.inr ⟨fun z => hu z.2, rfl, rfl⟩⟩
  · rw [← jb_f ht, thM_f ht]
    refine jJ_if_eq (pc := 5) (tgt := 16) dX7_alike_5 (by decide) (fun c5 => ?_) (fun c5 => ?_)
    · refine jJ_iconst (pc := 16) dX7_alike_16 (by decide) ?_
      refine jJ_zret (pc := 17) dX7_alike_17 rfl (Or.inl rfl) ?_
      exact ⟨rfl, Or.inr ⟨fun z => ht z.1, rfl, rfl⟩⟩
    · exact absurd rfl c5
end JRN
