section JRL2
variable {E : jE} {I : jI} {P : jP} {d m t i : Nat} {a : Nat → Nat} {x : TX}
theorem lay_tok {B : jI} {Z : Code → List Frame → Array Value → State → State → Prop} {n : Nat} (hR : RfL E P m a) (hT : RT B a t x) (hW : WX x) (ht : t < 12) (hi : i < (xT x).length) (hn : n = (xEn x i - xSt x i).toNat) (hd : 1 ≤ d) :
    ∀ (r k : Nat) (q : Option (List Int)) (f : Int) (J : jI) (z : Option jV), k + r = n → StQ B m a q f J → (∀ f' J' z4, StQ B m a (sayQ q (rowF (xF x) ((xSt x i).toNat + k) r)) f' J' → jJ E yX7_lay.cls cX7_lay 6 (some .int) (jRm d) Z 0 0 111 [some (jp m), some (ji (t : Int)), some (ji f'), some (ji (i : Int)), z4, z] [] J' P) → jJ E yX7_lay.cls cX7_lay 6 (some .int) (jRm d) Z 0 0 45 [some (jp m), some (ji (t : Int)), some (ji f), some (ji (i : Int)), some (ji (k : Int)), z] [] J P := by
  have hl := hW.2.2.2.1
  have t1 := (hW.tk hi).1
  intro r
  induction r with
  | zero =>
    intro k q f J z hk hS kk
    obtain ⟨l0, hl0, eJ⟩ := hS.ok
    have hTJ : RT J a t x := by rw [eJ]; exact otM_rt hR hT
    have e12 := hTJ.g12n hW hi
    refine jJ_iload (pc := 45) dX7_lay_45 rfl ?_
    refine jJ_aload_n (pc := 47) dX7_lay_47 rfl ?_
    refine jJ_getr (pc := 48) dX7_lay_48 fX7_39 rfl hR.1 hR.p12 ?_
    try simp only [e12]
    refine jJ_sipush (pc := 51) dX7_lay_51 (by decide) ?_
    refine jJ_iload_n (pc := 54) dX7_lay_54 rfl ?_
    refine jJ_imul (pc := 55) dX7_lay_55 ⟨by omega, by omega⟩ ?_
    refine jJ_iload_n (pc := 56) dX7_lay_56 rfl ?_
    refine jJ_iadd (pc := 57) dX7_lay_57 ⟨by omega, by omega⟩ ?_
    refine jJ_iald (pc := 58) dX7_lay_58 hR.a12 ⟨by omega, by omega⟩ ?_
    try simp only [e12]
    refine jJ_icmp_ge (pc := 59) (tgt := 111) dX7_lay_59 (by decide) (fun c59 => ?_) (fun c59 => ?_)
    · have := kk f J (some (ji (k : Int))) (by rw [rowF, sayQ_nil hS.len]; exact hS)
      exact this
    · exfalso
      omega
  | succ r ih =>
    intro k q f J z hk hS kk
    obtain ⟨l0, hl0, eJ⟩ := hS.ok
    have hTJ : RT J a t x := by rw [eJ]; exact otM_rt hR hT
    have e12 := hTJ.g12n hW hi
    have e11 := hTJ.g11n hi
    have e6 := hTJ.byn hW hi (k := k) (by omega)
    have nx : ∀ f' J', StQ B m a (sayQ q [xF x ((xSt x i).toNat + k)]) f' J' → jJ E yX7_lay.cls cX7_lay 6 (some .int) (jRm d) Z 0 0 105 [some (jp m), some (ji (t : Int)), some (ji f'), some (ji (i : Int)), some (ji (k : Int)), z] [] J' P := by
      intro f' J' hS'
      refine jJ_iinc (pc := 105) (ls' := [_, _, _, _, _, _]) dX7_lay_105 rfl ⟨by omega, by omega⟩ rfl ?_
      refine jJ_goto (pc := 108) (tgt := 45) dX7_lay_108 (by decide) ?_
      refine ih (k + 1) _ f' J' z (by omega) hS' (fun f2 J2 z4 h2 => kk f2 J2 z4 ?_)
      rw [sayQ_app] at h2
      exact h2
    refine jJ_iload (pc := 45) dX7_lay_45 rfl ?_
    refine jJ_aload_n (pc := 47) dX7_lay_47 rfl ?_
    refine jJ_getr (pc := 48) dX7_lay_48 fX7_39 rfl hR.1 hR.p12 ?_
    try simp only [e12]
    refine jJ_sipush (pc := 51) dX7_lay_51 (by decide) ?_
    refine jJ_iload_n (pc := 54) dX7_lay_54 rfl ?_
    refine jJ_imul (pc := 55) dX7_lay_55 ⟨by omega, by omega⟩ ?_
    refine jJ_iload_n (pc := 56) dX7_lay_56 rfl ?_
    refine jJ_iadd (pc := 57) dX7_lay_57 ⟨by omega, by omega⟩ ?_
    refine jJ_iald (pc := 58) dX7_lay_58 hR.a12 ⟨by omega, by omega⟩ ?_
    try simp only [e12]
    refine jJ_icmp_ge (pc := 59) (tgt := 111) dX7_lay_59 (by decide) (fun c59 => ?_) (fun c59 => ?_)
    · exfalso
      omega
    · rcases hS.say (xF x ((xSt x i).toNat + k)) with ⟨hf, -, hs⟩ | ⟨hf, l, hl2, rfl, hs⟩
      · refine jJ_iload_n (pc := 62) dX7_lay_62 rfl ?_
        refine jJ_if_eq (pc := 63) (tgt := 103) dX7_lay_63 (by decide) (fun c63 => ?_) (fun c63 => ?_)
        · refine jJ_iconst (pc := 103) dX7_lay_103 (by decide) ?_
          refine jJ_istore_n (pc := 104) (ls' := [_, _, _, _, _, _]) dX7_lay_104 (Nat.le_of_ble_eq_true rfl) rfl ?_
          exact nx 0 J hs
        · exact absurd hf c63
      · refine jJ_iload_n (pc := 62) dX7_lay_62 rfl ?_
        refine jJ_if_eq (pc := 63) (tgt := 103) dX7_lay_63 (by decide) (fun c63 => ?_) (fun c63 => ?_)
        · exact absurd c63 hf
        · refine jJ_aload_n (pc := 66) dX7_lay_66 rfl ?_
          refine jJ_aload_n (pc := 67) dX7_lay_67 rfl ?_
          refine jJ_getr (pc := 68) dX7_lay_68 fX7_21 rfl hR.1 hR.p6 ?_
          try simp only [e11, e6]
          refine jJ_sipush (pc := 71) dX7_lay_71 (by decide) ?_
          refine jJ_iload_n (pc := 74) dX7_lay_74 rfl ?_
          refine jJ_imul (pc := 75) dX7_lay_75 ⟨by omega, by omega⟩ ?_
          refine jJ_aload_n (pc := 76) dX7_lay_76 rfl ?_
          refine jJ_getr (pc := 77) dX7_lay_77 fX7_36 rfl hR.1 hR.p11 ?_
          try simp only [e11, e6]
          refine jJ_sipush (pc := 80) dX7_lay_80 (by decide) ?_
          refine jJ_iload_n (pc := 83) dX7_lay_83 rfl ?_
          refine jJ_imul (pc := 84) dX7_lay_84 ⟨by omega, by omega⟩ ?_
          refine jJ_iload_n (pc := 85) dX7_lay_85 rfl ?_
          refine jJ_iadd (pc := 86) dX7_lay_86 ⟨by omega, by omega⟩ ?_
          refine jJ_iald (pc := 87) dX7_lay_87 hR.a11 ⟨by omega, by omega⟩ ?_
          try simp only [e11, e6]
          refine jJ_iadd (pc := 88) dX7_lay_88 ⟨by omega, by omega⟩ ?_
          refine jJ_iload (pc := 89) dX7_lay_89 rfl ?_
          refine jJ_iadd (pc := 91) dX7_lay_91 ⟨by omega, by omega⟩ ?_
          refine jJ_iald (pc := 92) dX7_lay_92 hR.a6 ⟨by omega, by omega⟩ ?_
          try simp only [e11, e6]
          refine jJ_callVd (pc := 93) (as := [_]) dX7_lay_93 mX7_270 (jRcv_of hR.1 rfl rfl) (Nat.le_of_ble_eq_true rfl) (jRm_ok (by omega) (by decide)) (x_says (d := d - 1) hR hl2) ?_
          refine jJ_if_eq (pc := 96) (tgt := 103) dX7_lay_96 (by decide) (fun c96 => ?_) (fun c96 => ?_)
          · rw [c96] at hs
            refine jJ_iconst (pc := 103) dX7_lay_103 (by decide) ?_
            refine jJ_istore_n (pc := 104) (ls' := [_, _, _, _, _, _]) dX7_lay_104 (Nat.le_of_ble_eq_true rfl) rfl ?_
            exact nx 0 _ hs
          · rw [show jb (l.length ≠ 2000) = 1 by have := jb_01 (p := l.length ≠ 2000); omega] at hs
            refine jJ_iconst (pc := 99) dX7_lay_99 (by decide) ?_
            refine jJ_goto (pc := 100) (tgt := 104) dX7_lay_100 (by decide) ?_
            refine jJ_istore_n (pc := 104) (ls' := [_, _, _, _, _, _]) dX7_lay_104 (Nat.le_of_ble_eq_true rfl) rfl ?_
            exact nx 1 _ hs
theorem lay_bl {B : jI} {Z : Code → List Frame → Array Value → State → State → Prop} {n : Nat} (hR : RfL E P m a) (hT : RT B a t x) (hW : WX x) (ht : t < 12) (hi : i + 1 < (xT x).length) (hn : n = (2 * xDp x (i + 1)).toNat) (hd : 1 ≤ d) :
    ∀ (r k : Nat) (q : Option (List Int)) (f : Int) (J : jI), k + r = n → StQ B m a q f J → (∀ f' J' z, StQ B m a (sayQ q (List.replicate r 32)) f' J' → jJ E yX7_lay.cls cX7_lay 6 (some .int) (jRm d) Z 0 0 239 [some (jp m), some (ji (t : Int)), some (ji f'), some (ji (i : Int)), some (ji 2), z] [] J' P) → jJ E yX7_lay.cls cX7_lay 6 (some .int) (jRm d) Z 0 0 187 [some (jp m), some (ji (t : Int)), some (ji f), some (ji (i : Int)), some (ji 2), some (ji (k : Int))] [] J P := by
  have hl := hW.2.2.2.1
  have t2 := (hW.tk (i := i + 1) hi).2.2.2.1
  intro r
  induction r with
  | zero =>
    intro k q f J hk hS kk
    obtain ⟨l0, hl0, eJ⟩ := hS.ok
    have hTJ : RT J a t x := by rw [eJ]; exact otM_rt hR hT
    have e14 : J (a 14) (201 * (t : Int) + (i : Int) + 1).toNat = xDp x (i + 1) := by
      rw [show (201 * (t : Int) + (i : Int) + 1).toNat = 201 * t + (i + 1) by omega]
      exact (hTJ.2.2.2.2.2 (i + 1) hi).2.2.2.1
    refine jJ_iload (pc := 187) dX7_lay_187 rfl ?_
    refine jJ_iconst (pc := 189) dX7_lay_189 (by decide) ?_
    refine jJ_icmp_ne (pc := 190) (tgt := 239) dX7_lay_190 (by decide) (fun c190 => ?_) (fun c190 => ?_)
    · exact absurd rfl c190
    · refine jJ_iload (pc := 193) dX7_lay_193 rfl ?_
      refine jJ_iconst (pc := 195) dX7_lay_195 (by decide) ?_
      refine jJ_aload_n (pc := 196) dX7_lay_196 rfl ?_
      refine jJ_getr (pc := 197) dX7_lay_197 fX7_45 rfl hR.1 hR.p14 ?_
      try simp only [e14]
      refine jJ_sipush (pc := 200) dX7_lay_200 (by decide) ?_
      refine jJ_iload_n (pc := 203) dX7_lay_203 rfl ?_
      refine jJ_imul (pc := 204) dX7_lay_204 ⟨by omega, by omega⟩ ?_
      refine jJ_iload_n (pc := 205) dX7_lay_205 rfl ?_
      refine jJ_iadd (pc := 206) dX7_lay_206 ⟨by omega, by omega⟩ ?_
      refine jJ_iconst (pc := 207) dX7_lay_207 (by decide) ?_
      refine jJ_iadd (pc := 208) dX7_lay_208 ⟨by omega, by omega⟩ ?_
      refine jJ_iald (pc := 209) dX7_lay_209 hR.a14 ⟨by omega, by omega⟩ ?_
      try simp only [e14]
      refine jJ_imul (pc := 210) dX7_lay_210 ⟨by omega, by omega⟩ ?_
      refine jJ_icmp_ge (pc := 211) (tgt := 239) dX7_lay_211 (by decide) (fun c211 => ?_) (fun c211 => ?_)
      · have := kk f J (some (ji (k : Int))) (by rw [List.replicate, sayQ_nil hS.len]; exact hS)
        exact this
      · exfalso
        omega
  | succ r ih =>
    intro k q f J hk hS kk
    obtain ⟨l0, hl0, eJ⟩ := hS.ok
    have hTJ : RT J a t x := by rw [eJ]; exact otM_rt hR hT
    have e14 : J (a 14) (201 * (t : Int) + (i : Int) + 1).toNat = xDp x (i + 1) := by
      rw [show (201 * (t : Int) + (i : Int) + 1).toNat = 201 * t + (i + 1) by omega]
      exact (hTJ.2.2.2.2.2 (i + 1) hi).2.2.2.1
    have nx : ∀ f' J', StQ B m a (sayQ q [32]) f' J' → jJ E yX7_lay.cls cX7_lay 6 (some .int) (jRm d) Z 0 0 233 [some (jp m), some (ji (t : Int)), some (ji f'), some (ji (i : Int)), some (ji 2), some (ji (k : Int))] [] J' P := by
      intro f' J' hS'
      refine jJ_iinc (pc := 233) (ls' := [_, _, _, _, _, _]) dX7_lay_233 rfl ⟨by omega, by omega⟩ rfl ?_
      refine jJ_goto (pc := 236) (tgt := 187) dX7_lay_236 (by decide) ?_
      refine ih (k + 1) _ f' J' (by omega) hS' (fun f2 J2 z4 h2 => kk f2 J2 z4 ?_)
      rw [sayQ_app] at h2
      exact h2
    refine jJ_iload (pc := 187) dX7_lay_187 rfl ?_
    refine jJ_iconst (pc := 189) dX7_lay_189 (by decide) ?_
    refine jJ_icmp_ne (pc := 190) (tgt := 239) dX7_lay_190 (by decide) (fun c190 => ?_) (fun c190 => ?_)
    · exact absurd rfl c190
    · refine jJ_iload (pc := 193) dX7_lay_193 rfl ?_
      refine jJ_iconst (pc := 195) dX7_lay_195 (by decide) ?_
      refine jJ_aload_n (pc := 196) dX7_lay_196 rfl ?_
      refine jJ_getr (pc := 197) dX7_lay_197 fX7_45 rfl hR.1 hR.p14 ?_
      try simp only [e14]
      refine jJ_sipush (pc := 200) dX7_lay_200 (by decide) ?_
      refine jJ_iload_n (pc := 203) dX7_lay_203 rfl ?_
      refine jJ_imul (pc := 204) dX7_lay_204 ⟨by omega, by omega⟩ ?_
      refine jJ_iload_n (pc := 205) dX7_lay_205 rfl ?_
      refine jJ_iadd (pc := 206) dX7_lay_206 ⟨by omega, by omega⟩ ?_
      refine jJ_iconst (pc := 207) dX7_lay_207 (by decide) ?_
      refine jJ_iadd (pc := 208) dX7_lay_208 ⟨by omega, by omega⟩ ?_
      refine jJ_iald (pc := 209) dX7_lay_209 hR.a14 ⟨by omega, by omega⟩ ?_
      try simp only [e14]
      refine jJ_imul (pc := 210) dX7_lay_210 ⟨by omega, by omega⟩ ?_
      refine jJ_icmp_ge (pc := 211) (tgt := 239) dX7_lay_211 (by decide) (fun c211 => ?_) (fun c211 => ?_)
      · exfalso
        omega
      · rcases hS.say 32 with ⟨hf, -, hs⟩ | ⟨hf, l, hl2, rfl, hs⟩
        · refine jJ_iload_n (pc := 214) dX7_lay_214 rfl ?_
          refine jJ_if_eq (pc := 215) (tgt := 231) dX7_lay_215 (by decide) (fun c215 => ?_) (fun c215 => ?_)
          · refine jJ_iconst (pc := 231) dX7_lay_231 (by decide) ?_
            refine jJ_istore_n (pc := 232) (ls' := [_, _, _, _, _, _]) dX7_lay_232 (Nat.le_of_ble_eq_true rfl) rfl ?_
            exact nx 0 J hs
          · exact absurd hf c215
        · refine jJ_iload_n (pc := 214) dX7_lay_214 rfl ?_
          refine jJ_if_eq (pc := 215) (tgt := 231) dX7_lay_215 (by decide) (fun c215 => ?_) (fun c215 => ?_)
          · exact absurd c215 hf
          · refine jJ_aload_n (pc := 218) dX7_lay_218 rfl ?_
            refine jJ_bipush (pc := 219) dX7_lay_219 (by decide) ?_
            refine jJ_callVd (pc := 221) (as := [_]) dX7_lay_221 mX7_270 (jRcv_of hR.1 rfl rfl) (Nat.le_of_ble_eq_true rfl) (jRm_ok (by omega) (by decide)) (x_says (d := d - 1) hR hl2) ?_
            refine jJ_if_eq (pc := 224) (tgt := 231) dX7_lay_224 (by decide) (fun c224 => ?_) (fun c224 => ?_)
            · rw [c224] at hs
              refine jJ_iconst (pc := 231) dX7_lay_231 (by decide) ?_
              refine jJ_istore_n (pc := 232) (ls' := [_, _, _, _, _, _]) dX7_lay_232 (Nat.le_of_ble_eq_true rfl) rfl ?_
              exact nx 0 _ hs
            · rw [show jb (l.length ≠ 2000) = 1 by have := jb_01 (p := l.length ≠ 2000); omega] at hs
              refine jJ_iconst (pc := 227) dX7_lay_227 (by decide) ?_
              refine jJ_goto (pc := 228) (tgt := 232) dX7_lay_228 (by decide) ?_
              refine jJ_istore_n (pc := 232) (ls' := [_, _, _, _, _, _]) dX7_lay_232 (Nat.le_of_ble_eq_true rfl) rfl ?_
              exact nx 1 _ hs
/-- a TEXT's TOKENS from i on, laid: each with the gap behind it -/
def lyR (tol dp : Nat → Int) (nm : Nat → List Int) (n : Nat) : Nat → Nat → List Int
  | 0, _ => []
  | k + 1, i => nm i ++ ((if i + 1 = n then [] else gapB (tol i) (dp (i + 1))) ++ lyR tol dp nm n k (i + 1))
theorem lay_lp {B : jI} {S : Nat → Nat → Int} {n : Nat} {Q : Option jV → jI → jP → Prop} (hR : RfL E P m a) (hT : RT B a t x) (hW : WX x) (hS : RS B a S) (ht : t < 12) (hn : n = (xT x).length) (hd : 4 ≤ d) :
    ∀ (r i : Nat) (q : Option (List Int)) (f : Int) (J : jI) (z4 z5 : Option jV), i + r = n → StQ B m a q f J → (∀ f' J' i' z4 z5, StQ B m a (sayQ q (lyR (xTol S x) (xDp x) (xNm x) n r i)) f' J' → jJ E yX7_lay.cls cX7_lay 6 (some .int) (jRm d) (jZ E Q) 0 0 245 [some (jp m), some (ji (t : Int)), some (ji f'), some (ji i'), z4, z5] [] J' P) → jJ E yX7_lay.cls cX7_lay 6 (some .int) (jRm d) (jZ E Q) 0 0 28 [some (jp m), some (ji (t : Int)), some (ji f), some (ji (i : Int)), z4, z5] [] J P := by
  have hl := hW.2.2.2.1
  intro r
  induction r with
  | zero =>
    intro i q f J z4 z5 hi hSt kk
    obtain ⟨l0, hl0, eJ⟩ := hSt.ok
    have e9 : J (a 9) ((t : Int).toNat) = ((xT x).length : Int) := by rw [Int.toNat_natCast, eJ]; exact (otM_rt hR hT).2.2.1
    refine jJ_iload_n (pc := 28) dX7_lay_28 rfl ?_
    refine jJ_aload_n (pc := 29) dX7_lay_29 rfl ?_
    refine jJ_getr (pc := 30) dX7_lay_30 fX7_30 rfl hR.1 hR.p9 ?_
    try simp only [e9]
    refine jJ_iload_n (pc := 33) dX7_lay_33 rfl ?_
    refine jJ_iald (pc := 34) dX7_lay_34 hR.a9 ⟨by omega, by omega⟩ ?_
    try simp only [e9]
    refine jJ_icmp_ge (pc := 35) (tgt := 245) dX7_lay_35 (by decide) (fun c35 => ?_) (fun c35 => ?_)
    · exact kk f J _ _ _ (by rw [lyR, sayQ_nil hSt.len]; exact hSt)
    · exfalso
      omega
  | succ r ih =>
    intro i q f J z4 z5 hi hSt kk
    obtain ⟨l0, hl0, eJ⟩ := hSt.ok
    have e9 : J (a 9) ((t : Int).toNat) = ((xT x).length : Int) := by rw [Int.toNat_natCast, eJ]; exact (otM_rt hR hT).2.2.1
    refine jJ_iload_n (pc := 28) dX7_lay_28 rfl ?_
    refine jJ_aload_n (pc := 29) dX7_lay_29 rfl ?_
    refine jJ_getr (pc := 30) dX7_lay_30 fX7_30 rfl hR.1 hR.p9 ?_
    try simp only [e9]
    refine jJ_iload_n (pc := 33) dX7_lay_33 rfl ?_
    refine jJ_iald (pc := 34) dX7_lay_34 hR.a9 ⟨by omega, by omega⟩ ?_
    try simp only [e9]
    refine jJ_icmp_ge (pc := 35) (tgt := 245) dX7_lay_35 (by decide) (fun c35 => ?_) (fun c35 => ?_)
    · exfalso
      omega
    · refine jJ_iload_n (pc := 38) dX7_lay_38 rfl ?_
      refine jJ_if_eq (pc := 39) (tgt := 245) dX7_lay_39 (by decide) (fun c39 => ?_) (fun c39 => ?_)
      · have hq : q = none := by
          rcases hSt with ⟨l, -, h1, -⟩ | ⟨h0, -⟩
          · omega
          · exact h0
        exact kk f J _ _ _ (by rw [hq] at hSt ⊢; exact hSt)
      · refine jJ_iconst (pc := 42) dX7_lay_42 (by decide) ?_
        refine jJ_istore (pc := 43) (ls' := [_, _, _, _, _, _]) dX7_lay_43 (Nat.le_of_ble_eq_true rfl) rfl ?_
        refine lay_tok hR hT hW ht (by omega) rfl (by omega) (xEn x i - xSt x i).toNat 0 q f J z5 (by omega) hSt (fun f1 J1 z4 h1 => ?_)
        obtain ⟨l1, hl1, eJ1⟩ := h1.ok
        have hT1 : RT J1 a t x := by rw [eJ1]; exact otM_rt hR hT
        have hS1 : RS J1 a S := fun k j h1 h2 => by rw [eJ1, otM_row hR (by decide) (by decide)]; exact hS k j h1 h2
        have e91 : J1 (a 9) ((t : Int).toNat) = ((xT x).length : Int) := by rw [Int.toNat_natCast]; exact hT1.2.2.1
        have h1' : StQ B m a (sayQ q (xNm x i)) f1 J1 := h1
        have nx : ∀ (f' : Int) (J' : jI) (gp : List Int) (z4 z5 : Option jV), gp = (if i + 1 = n then [] else gapB (xTol S x i) (xDp x (i + 1))) → StQ B m a (sayQ (sayQ q (xNm x i)) gp) f' J' → jJ E yX7_lay.cls cX7_lay 6 (some .int) (jRm d) (jZ E Q) 0 0 239 [some (jp m), some (ji (t : Int)), some (ji f'), some (ji (i : Int)), z4, z5] [] J' P := by
          intro f' J' gp z4 z5 hgp hSt'
          refine jJ_iinc (pc := 239) (ls' := [_, _, _, _, _, _]) dX7_lay_239 rfl ⟨by omega, by omega⟩ rfl ?_
          refine jJ_goto (pc := 242) (tgt := 28) dX7_lay_242 (by decide) ?_
          refine ih (i + 1) _ f' J' z4 z5 (by omega) hSt' (fun f2 J2 i' z4 z5 h2 => kk f2 J2 i' z4 z5 ?_)
          rw [sayQ_app, sayQ_app, ← List.append_assoc, hgp, List.append_assoc] at h2
          rw [lyR]
          exact h2
        refine jJ_iload_n (pc := 111) dX7_lay_111 rfl ?_
        refine jJ_iconst (pc := 112) dX7_lay_112 (by decide) ?_
        refine jJ_iadd (pc := 113) dX7_lay_113 ⟨by omega, by omega⟩ ?_
        refine jJ_aload_n (pc := 114) dX7_lay_114 rfl ?_
        refine jJ_getr (pc := 115) dX7_lay_115 fX7_30 rfl hR.1 hR.p9 ?_
        try simp only [e91]
        refine jJ_iload_n (pc := 118) dX7_lay_118 rfl ?_
        refine jJ_iald (pc := 119) dX7_lay_119 hR.a9 ⟨by omega, by omega⟩ ?_
        try simp only [e91]
        refine jJ_icmp_ne (pc := 120) (tgt := 126) dX7_lay_120 (by decide) (fun c120 => ?_) (fun c120 => ?_)
        · have hin : i + 1 < (xT x).length := by omega
          refine jJ_aload_n (pc := 126) dX7_lay_126 rfl ?_
          refine jJ_iload_n (pc := 127) dX7_lay_127 rfl ?_
          refine jJ_iload_n (pc := 128) dX7_lay_128 rfl ?_
          refine jJ_callVd (pc := 129) (as := [_, _]) dX7_lay_129 mX7_261 (jRcv_of hR.1 rfl rfl) (Nat.le_of_ble_eq_true rfl) (jRm_ok (by omega) (by decide)) (x_toldAt (d := d - 1) hR hT1 hW hS1 ht hin (by omega)) ?_
          refine jJ_istore (pc := 132) (ls' := [_, _, _, _, _, _]) dX7_lay_132 (Nat.le_of_ble_eq_true rfl) rfl ?_
          refine jJ_iload (pc := 134) dX7_lay_134 rfl ?_
          refine jJ_iconst (pc := 136) dX7_lay_136 (by decide) ?_
          refine jJ_icmp_ne (pc := 137) (tgt := 159) dX7_lay_137 (by decide) (fun c137 => ?_) (fun c137 => ?_)
          · -- not one blank
            refine jJ_iload (pc := 159) dX7_lay_159 rfl ?_
            refine jJ_iconst (pc := 161) dX7_lay_161 (by decide) ?_
            refine jJ_icmp_ne (pc := 162) (tgt := 184) dX7_lay_162 (by decide) (fun c162 => ?_) (fun c162 => ?_)
            · refine jJ_iconst (pc := 184) dX7_lay_184 (by decide) ?_
              refine jJ_istore (pc := 185) (ls' := [_, _, _, _, _, _]) dX7_lay_185 (Nat.le_of_ble_eq_true rfl) rfl ?_
              refine jJ_iload (pc := 187) dX7_lay_187 rfl ?_
              refine jJ_iconst (pc := 189) dX7_lay_189 (by decide) ?_
              refine jJ_icmp_ne (pc := 190) (tgt := 239) dX7_lay_190 (by decide) (fun c190 => ?_) (fun c190 => ?_)
              · exact nx f1 J1 [] _ _ (by rw [if_neg (by omega), gapB, if_neg c137, if_neg c162]) (by rw [sayQ_nil h1'.len]; exact h1')
              · exact absurd c190 c162
            · have go : ∀ f' J', StQ B m a (sayQ (sayQ q (xNm x i)) [10]) f' J' → jJ E yX7_lay.cls cX7_lay 6 (some .int) (jRm d) (jZ E Q) 0 0 184 [some (jp m), some (ji (t : Int)), some (ji f'), some (ji (i : Int)), some (ji (xTol S x i)), z5] [] J' P := by
                intro f' J' h2
                rw [c162]
                refine jJ_iconst (pc := 184) dX7_lay_184 (by decide) ?_
                refine jJ_istore (pc := 185) (ls' := [_, _, _, _, _, _]) dX7_lay_185 (Nat.le_of_ble_eq_true rfl) rfl ?_
                refine lay_bl hR hT hW ht hin rfl (by omega) (2 * xDp x (i + 1)).toNat 0 _ f' J' (by omega) h2 (fun f3 J3 z h3 => ?_)
                rw [sayQ_app] at h3
                exact nx f3 J3 _ _ _ (by rw [if_neg (by omega), gapB, if_neg c137, if_pos c162]; rfl) h3
              rcases h1'.say 10 with ⟨hf, -, hs⟩ | ⟨hf, l, hl2, rfl, hs⟩
              · refine jJ_iload_n (pc := 165) dX7_lay_165 rfl ?_
                refine jJ_if_eq (pc := 166) (tgt := 182) dX7_lay_166 (by decide) (fun c166 => ?_) (fun c166 => ?_)
                · refine jJ_iconst (pc := 182) dX7_lay_182 (by decide) ?_
                  refine jJ_istore_n (pc := 183) (ls' := [_, _, _, _, _, _]) dX7_lay_183 (Nat.le_of_ble_eq_true rfl) rfl ?_
                  exact go 0 J1 hs
                · exact absurd hf c166
              · refine jJ_iload_n (pc := 165) dX7_lay_165 rfl ?_
                refine jJ_if_eq (pc := 166) (tgt := 182) dX7_lay_166 (by decide) (fun c166 => ?_) (fun c166 => ?_)
                · exact absurd c166 hf
                · refine jJ_aload_n (pc := 169) dX7_lay_169 rfl ?_
                  refine jJ_bipush (pc := 170) dX7_lay_170 (by decide) ?_
                  refine jJ_callVd (pc := 172) (as := [_]) dX7_lay_172 mX7_270 (jRcv_of hR.1 rfl rfl) (Nat.le_of_ble_eq_true rfl) (jRm_ok (by omega) (by decide)) (x_says (d := d - 1) hR hl2) ?_
                  refine jJ_if_eq (pc := 175) (tgt := 182) dX7_lay_175 (by decide) (fun c175 => ?_) (fun c175 => ?_)
                  · rw [c175] at hs
                    refine jJ_iconst (pc := 182) dX7_lay_182 (by decide) ?_
                    refine jJ_istore_n (pc := 183) (ls' := [_, _, _, _, _, _]) dX7_lay_183 (Nat.le_of_ble_eq_true rfl) rfl ?_
                    exact go 0 _ hs
                  · rw [show jb (l.length ≠ 2000) = 1 by have := jb_01 (p := l.length ≠ 2000); omega] at hs
                    refine jJ_iconst (pc := 178) dX7_lay_178 (by decide) ?_
                    refine jJ_goto (pc := 179) (tgt := 183) dX7_lay_179 (by decide) ?_
                    refine jJ_istore_n (pc := 183) (ls' := [_, _, _, _, _, _]) dX7_lay_183 (Nat.le_of_ble_eq_true rfl) rfl ?_
                    exact go 1 _ hs
          · have go : ∀ f' J', StQ B m a (sayQ (sayQ q (xNm x i)) [32]) f' J' → jJ E yX7_lay.cls cX7_lay 6 (some .int) (jRm d) (jZ E Q) 0 0 159 [some (jp m), some (ji (t : Int)), some (ji f'), some (ji (i : Int)), some (ji (xTol S x i)), z5] [] J' P := by
              intro f' J' h2
              refine jJ_iload (pc := 159) dX7_lay_159 rfl ?_
              refine jJ_iconst (pc := 161) dX7_lay_161 (by decide) ?_
              refine jJ_icmp_ne (pc := 162) (tgt := 184) dX7_lay_162 (by decide) (fun c162 => ?_) (fun c162 => ?_)
              · refine jJ_iconst (pc := 184) dX7_lay_184 (by decide) ?_
                refine jJ_istore (pc := 185) (ls' := [_, _, _, _, _, _]) dX7_lay_185 (Nat.le_of_ble_eq_true rfl) rfl ?_
                refine jJ_iload (pc := 187) dX7_lay_187 rfl ?_
                refine jJ_iconst (pc := 189) dX7_lay_189 (by decide) ?_
                refine jJ_icmp_ne (pc := 190) (tgt := 239) dX7_lay_190 (by decide) (fun c190 => ?_) (fun c190 => ?_)
                · exact nx f' J' _ _ _ (by rw [if_neg (by omega), gapB, if_pos c137]) h2
                · exact absurd c190 c162
              · exfalso
                omega
            rcases h1'.say 32 with ⟨hf, -, hs⟩ | ⟨hf, l, hl2, rfl, hs⟩
            · refine jJ_iload_n (pc := 140) dX7_lay_140 rfl ?_
              refine jJ_if_eq (pc := 141) (tgt := 157) dX7_lay_141 (by decide) (fun c141 => ?_) (fun c141 => ?_)
              · refine jJ_iconst (pc := 157) dX7_lay_157 (by decide) ?_
                refine jJ_istore_n (pc := 158) (ls' := [_, _, _, _, _, _]) dX7_lay_158 (Nat.le_of_ble_eq_true rfl) rfl ?_
                exact go 0 J1 hs
              · exact absurd hf c141
            · refine jJ_iload_n (pc := 140) dX7_lay_140 rfl ?_
              refine jJ_if_eq (pc := 141) (tgt := 157) dX7_lay_141 (by decide) (fun c141 => ?_) (fun c141 => ?_)
              · exact absurd c141 hf
              · refine jJ_aload_n (pc := 144) dX7_lay_144 rfl ?_
                refine jJ_bipush (pc := 145) dX7_lay_145 (by decide) ?_
                refine jJ_callVd (pc := 147) (as := [_]) dX7_lay_147 mX7_270 (jRcv_of hR.1 rfl rfl) (Nat.le_of_ble_eq_true rfl) (jRm_ok (by omega) (by decide)) (x_says (d := d - 1) hR hl2) ?_
                refine jJ_if_eq (pc := 150) (tgt := 157) dX7_lay_150 (by decide) (fun c150 => ?_) (fun c150 => ?_)
                · rw [c150] at hs
                  refine jJ_iconst (pc := 157) dX7_lay_157 (by decide) ?_
                  refine jJ_istore_n (pc := 158) (ls' := [_, _, _, _, _, _]) dX7_lay_158 (Nat.le_of_ble_eq_true rfl) rfl ?_
                  exact go 0 _ hs
                · rw [show jb (l.length ≠ 2000) = 1 by have := jb_01 (p := l.length ≠ 2000); omega] at hs
                  refine jJ_iconst (pc := 153) dX7_lay_153 (by decide) ?_
                  refine jJ_goto (pc := 154) (tgt := 158) dX7_lay_154 (by decide) ?_
                  refine jJ_istore_n (pc := 158) (ls' := [_, _, _, _, _, _]) dX7_lay_158 (Nat.le_of_ble_eq_true rfl) rfl ?_
                  exact go 1 _ hs
        · refine jJ_goto (pc := 123) (tgt := 239) dX7_lay_123 (by decide) ?_
          exact nx f1 J1 [] _ _ (by rw [if_pos (by omega)]) (by rw [sayQ_nil h1'.len]; exact h1')
/-- what comes of lay() and turn(): OUT, and of which TEXT it is -/
def ouQ (I : jI) (m : Nat) (a : Nat → Nat) (t : Int) (q : Option (List Int)) : Option jV → jI → Prop := fun v I' => v = some (ji (q.elim (-1) (fun l => (l.length : Int)))) ∧ (∀ l, q = some l → l.length ≤ 2000) ∧ (∀ b, b ≠ m → b ≠ a 19 → b ≠ a 32 → b ≠ a 33 → I' b = I b) ∧ (∀ k, k ≠ 0 → k ≠ 20 → k ≠ 21 → k ≠ 34 → k ≠ 35 → I' m k = I m k) ∧ I' m 0 = 0 ∧ I' m 20 = ((q.getD []).length : Int) ∧ I' m 21 = q.elim (-1) (fun _ => t) ∧ ∀ k, k < (q.getD []).length → I' (a 19) k = (q.getD []).getD k 0
theorem r_lay {X : Nat → TX} {S : Nat → Nat → Int} {t : Int} (hR : RfL E P m a) (hX : RTs I a X) (hS : I m 16 ≠ 0 → RS I a S) (hd : 4 ≤ d) : jC E yX7_lay cX7_lay 6 (some .int) d [jp m, ji t] I P (fun v I' P' => P' = P ∧ ((rTh I a t ∧ ouQ I m a t (if I m 16 = 0 then none else sayQ (some []) (lyR (xTol S (X t.toNat)) (xDp (X t.toNat)) (xNm (X t.toNat)) (xT (X t.toNat)).length (xT (X t.toNat)).length 0)) v I') ∨ (¬ rTh I a t ∧ v = some (ji 0) ∧ I' = jput I m 0 1))) := by
  have n19 := hR.n19
  refine jC_intro (by decide +kernel) (by simp [jc, va_rf, Value.category]) (Nat.le_of_ble_eq_true rfl) ?_
  refine jJ_aload_n (pc := 0) dX7_lay_0 rfl ?_
  refine jJ_iload_n (pc := 1) dX7_lay_1 rfl ?_
  refine jJ_callVd (pc := 2) (as := [_]) dX7_lay_2 mX7_216 (jRcv_of hR.1 rfl rfl) (Nat.le_of_ble_eq_true rfl) (jRm_ok (by omega) (by decide)) (r_isThere (d := d - 1) hR (by omega)) ?_
  by_cases ht : 0 ≤ t ∧ t < 12 ∧ I (a 5) t.toNat ≠ 0
  · obtain ⟨hT, hW⟩ := hX t.toNat (by omega) ht.2.2
    obtain ⟨t', rfl⟩ : ∃ t' : Nat, t = (t' : Int) := ⟨t.toNat, by omega⟩
    rw [Int.toNat_natCast] at *
    have gT : rTh I a (t' : Int) := by rw [rTh, Int.toNat_natCast]; exact ht
    rw [← jb_t ht, thM_t ht]
    have hT0 : RT (jput (jput I m 0 0) m 21 (-1)) a t' (X t') := (hT.cg (fun j h1 h2 => jput_row (hR.nm (rfK_515 j (by omega) h2)))).cg (fun j h1 h2 => jput_row (hR.nm (rfK_515 j (by omega) h2)))
    have base : ∀ (l : List Int) (v21 : Int) (q : Option (List Int)), l = q.getD [] → v21 = q.elim (-1) (fun _ => (t' : Int)) → (∀ l, q = some l → l.length ≤ 2000) → ouQ I m a (t' : Int) q (some (ji (q.elim (-1) (fun l => (l.length : Int))))) (otM (jput (jput I m 0 0) m 21 v21) m a l) := by
      intro l v21 q hl hv hq
      refine ⟨rfl, hq, fun b h1 h2 _ _ => ?_, fun k h0 h20 h21 _ _ => ?_, ?_, ?_, ?_, fun k hk => ?_⟩
      · rw [otM_x h1 h2]; funext j; rw [jput_a _ h1, jput_a _ h1]
      · rw [otM_f hR h20, jput_k _ h21, jput_k _ h0]
      · rw [otM_f hR (by decide), jput_k _ (by decide), jput_s]
      · rw [otM_20, hl]
      · rw [otM_f hR (by decide), jput_s, hv]
      · unfold otM
        rw [if_neg (fun z => n19 z.1), if_pos ⟨rfl, by rw [hl]; exact hk⟩, hl]
    refine jJ_if_ne (pc := 5) (tgt := 10) dX7_lay_5 (by decide) (fun c5 => ?_) (fun c5 => ?_)
    · refine jJ_aload_n (pc := 10) dX7_lay_10 rfl ?_
      refine jJ_callVd (pc := 11) (as := []) dX7_lay_11 mX7_267 (jRcv_of hR.1 rfl rfl) (Nat.le_of_ble_eq_true rfl) (jRm_ok (by omega) (by decide)) (r_none (d := d - 1) hR) ?_
      rw [otM_nil (a := a)]
      have e16 : otM (jput (jput I m 0 0) m 21 (-1)) m a [] m 16 = I m 16 := by rw [otM_f hR (by decide), jput_k _ (by decide), jput_k _ (by decide)]
      refine jJ_pop (pc := 14) dX7_lay_14 rfl ?_
      refine jJ_aload_n (pc := 15) dX7_lay_15 rfl ?_
      refine jJ_geti (pc := 16) dX7_lay_16 fX7_257 rfl hR.1 ?_
      try simp only [e16]
      refine jJ_if_ne (pc := 19) (tgt := 24) dX7_lay_19 (by decide) (fun c19 => ?_) (fun c19 => ?_)
      · have hS0 : RS (jput (jput I m 0 0) m 21 (-1)) a S := fun k j h1 h2 => by rw [jput_a _ hR.n18, jput_a _ hR.n18]; exact hS c19 k j h1 h2
        refine jJ_iconst (pc := 24) dX7_lay_24 (by decide) ?_
        refine jJ_istore_n (pc := 25) (ls' := [_, _, _, _, _, _]) dX7_lay_25 (Nat.le_of_ble_eq_true rfl) rfl ?_
        refine jJ_iconst (pc := 26) dX7_lay_26 (by decide) ?_
        refine jJ_istore_n (pc := 27) (ls' := [_, _, _, _, _, _]) dX7_lay_27 (Nat.le_of_ble_eq_true rfl) rfl ?_
        refine lay_lp hR hT0 hW hS0 (by omega) rfl hd (xT (X t')).length 0 (some []) 1 _ none none (by omega) (Or.inl ⟨[], rfl, rfl, by decide, rfl⟩) (fun f J i' z4 z5 hSt => ?_)
        rw [if_neg c19]
        generalize sayQ (some []) (lyR (xTol S (X t')) (xDp (X t')) (xNm (X t')) (xT (X t')).length (xT (X t')).length 0) = q at *
        rcases hSt with ⟨l, rfl, rfl, h1, rfl⟩ | ⟨rfl, rfl, l, h1, rfl⟩
        · refine jJ_iload_n (pc := 245) dX7_lay_245 rfl ?_
          refine jJ_if_ne (pc := 246) (tgt := 254) dX7_lay_246 (by decide) (fun c246 => ?_) (fun c246 => ?_)
          · refine jJ_aload_n (pc := 254) dX7_lay_254 rfl ?_
            refine jJ_iload_n (pc := 255) dX7_lay_255 rfl ?_
            refine jJ_puti (pc := 256) dX7_lay_256 fX7_60w rfl ⟨rfl, rfl⟩ hR.1 ?_
            try simp only [otM_p hR (show (21 : Nat) ≠ 20 by decide), otM_20, jput_jput]
            refine jJ_aload_n (pc := 259) dX7_lay_259 rfl ?_
            refine jJ_geti (pc := 260) dX7_lay_260 fX7_264 rfl hR.1 ?_
            try simp only [otM_p hR (show (21 : Nat) ≠ 20 by decide), otM_20, jput_jput]
            refine jJ_iret (pc := 263) dX7_lay_263 rfl ?_
            exact ⟨rfl, Or.inl ⟨gT, base l (t' : Int) (some l) rfl rfl (fun l' h => by cases h; exact h1)⟩⟩
          · exact absurd c246 (by decide)
        · refine jJ_iload_n (pc := 245) dX7_lay_245 rfl ?_
          refine jJ_if_ne (pc := 246) (tgt := 254) dX7_lay_246 (by decide) (fun c246 => ?_) (fun c246 => ?_)
          · exact absurd rfl c246
          · refine jJ_aload_n (pc := 249) dX7_lay_249 rfl ?_
            refine jJ_callVd (pc := 250) (as := []) dX7_lay_250 mX7_267 (jRcv_of hR.1 rfl rfl) (Nat.le_of_ble_eq_true rfl) (jRm_ok (by omega) (by decide)) (r_none (d := d - 1) hR) ?_
            refine jJ_iret (pc := 253) dX7_lay_253 rfl ?_
            refine ⟨rfl, Or.inl ⟨gT, rfl, (fun l h => by cases h), fun b h1 h2 _ _ => ?_, fun k h0 h20 h21 _ _ => ?_, ?_, ?_, ?_, fun k hk => absurd hk (Nat.not_lt_zero k)⟩⟩
            · funext j; rw [jput_a _ h1, jput_a _ h1, otM_x h1 h2, jput_a _ h1, jput_a _ h1]
            · rw [jput_k _ h21, jput_k _ h20, otM_f hR h20, jput_k _ h21, jput_k _ h0]
            · rw [jput_k _ (by decide), jput_k _ (by decide), otM_f hR (by decide), jput_k _ (by decide), jput_s]
            · rw [jput_k _ (by decide), jput_s]; rfl
            · rw [jput_s]; rfl
      · refine jJ_iconst (pc := 22) dX7_lay_22 (by decide) ?_
        refine jJ_iret (pc := 23) dX7_lay_23 rfl ?_
        rw [if_pos c19]
        exact ⟨rfl, Or.inl ⟨gT, base [] (-1) none rfl rfl (fun l h => by cases h)⟩⟩
    · exact absurd c5 (by decide)
  · rw [← jb_f ht, thM_f ht]
    refine jJ_if_ne (pc := 5) (tgt := 10) dX7_lay_5 (by decide) (fun c5 => ?_) (fun c5 => ?_)
    · exact absurd rfl c5
    · refine jJ_iconst (pc := 8) dX7_lay_8 (by decide) ?_
      refine jJ_iret (pc := 9) dX7_lay_9 rfl ?_
      exact ⟨rfl, Or.inr ⟨ht, rfl, rfl⟩⟩
end JRL2
