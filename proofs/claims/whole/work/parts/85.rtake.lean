section JRX2
variable {E : jE} {I : jI} {P : jP} {d m t : Nat} {a : Nat → Nat} {x : TX} {h0 r0 : Nat → Int}
theorem take_cp {Z : Code → List Frame → Array Value → State → State → Prop} {t' : Int} {n : Nat} (hR : RfL E P m a) (h20 : I m 20 = (n : Int)) (hn : n ≤ 800) (kk : ∀ z, jJ E yX7_take.cls cX7_take 5 (some .boolean) (jRm d) Z 0 0 80 [some (jp m), some (ji t'), z, none, none] [] (cbM I a (a 19) n) P) :
    ∀ (r k : Nat), k + r = n → jJ E yX7_take.cls cX7_take 5 (some .boolean) (jRm d) Z 0 0 50 [some (jp m), some (ji t'), some (ji (k : Int)), none, none] [] (cbM I a (a 19) k) P := by
  have x1 : a 19 ≠ a 6 := hR.d (by decide) (by decide) (by decide)
  have e20 : ∀ k, cbM I a (a 19) k m 20 = (n : Int) := fun k => by rw [cbM_x (Ne.symm hR.n6)]; exact h20
  intro r
  induction r with
  | zero =>
    intro k hk
    refine jJ_iload_n (pc := 50) dX7_take_50 rfl ?_
    refine jJ_aload_n (pc := 51) dX7_take_51 rfl ?_
    refine jJ_geti (pc := 52) dX7_take_52 fX7_264 rfl hR.1 ?_
    try simp only [e20]
    refine jJ_icmp_ge (pc := 55) (tgt := 80) dX7_take_55 (by decide) (fun c55 => ?_) (fun c55 => ?_)
    · rw [show k = n by omega]
      exact kk _
    · exfalso
      omega
  | succ r ih =>
    intro k hk
    refine jJ_iload_n (pc := 50) dX7_take_50 rfl ?_
    refine jJ_aload_n (pc := 51) dX7_take_51 rfl ?_
    refine jJ_geti (pc := 52) dX7_take_52 fX7_264 rfl hR.1 ?_
    try simp only [e20]
    refine jJ_icmp_ge (pc := 55) (tgt := 80) dX7_take_55 (by decide) (fun c55 => ?_) (fun c55 => ?_)
    · exfalso
      omega
    · refine jJ_aload_n (pc := 58) dX7_take_58 rfl ?_
      refine jJ_getr (pc := 59) dX7_take_59 fX7_21 rfl hR.1 hR.p6 ?_
      try simp only [cbM_x x1]
      refine jJ_sipush (pc := 62) dX7_take_62 (by decide) ?_
      refine jJ_iload_n (pc := 65) dX7_take_65 rfl ?_
      refine jJ_iadd (pc := 66) dX7_take_66 ⟨by omega, by omega⟩ ?_
      refine jJ_aload_n (pc := 67) dX7_take_67 rfl ?_
      refine jJ_getr (pc := 68) dX7_take_68 fX7_57 rfl hR.1 hR.p19 ?_
      try simp only [cbM_x x1]
      refine jJ_iload_n (pc := 71) dX7_take_71 rfl ?_
      refine jJ_iald (pc := 72) dX7_take_72 hR.a19 ⟨by omega, by omega⟩ ?_
      try simp only [cbM_x x1]
      refine jJ_iast (pc := 73) dX7_take_73 hR.a6 ⟨by omega, by omega⟩ ?_
      try simp only [cbM_x x1]
      rw [show (9600 + (k : Int)).toNat = 9600 + k by omega, Int.toNat_natCast, cbM_s x1]
      refine jJ_iinc (pc := 74) (ls' := [_, _, _, _, _]) dX7_take_74 rfl ⟨by omega, by omega⟩ rfl ?_
      refine jJ_goto (pc := 77) (tgt := 50) dX7_take_77 (by decide) ?_
      exact ih (k + 1) (by omega)
/-- what comes of take() where OUT is read: W -/
def tkQ (I : jI) (m : Nat) (a : Nat → Nat) (t n : Nat) (g : Nat → Int) (W : RdRes) (v : Option jV) (I' : jI) : Prop := v = some (ji (jb (W.1 = 0))) ∧ rdP I m a t W (n, g, I (a 8) t, W.2.2.2.1, W.2.1 6) I' ∧ (∀ k, ¬ (k = 0 ∨ k = 21 ∨ (22 ≤ k ∧ k ≤ 27)) → I' m k = I m k) ∧ I' m 0 = 0 ∧ I' m 21 = -1
theorem r_take {t : Int} {l : List Int} (hR : RfL E P m a) (h20 : I m 20 = (l.length : Int)) (hl : l.length ≤ 2000) (hk : ∀ k, k < l.length → I (a 19) k = l.getD k 0) (hb : ∀ k, k < l.length → 0 ≤ l.getD k 0 ∧ l.getD k 0 ≤ 255) (hd : 38 ≤ d) :
    jC E yX7_take cX7_take 5 (some .boolean) d [jp m, ji t] I P (fun v I' P' => P' = P ∧ ((¬ rTh I a t ∧ v = some (ji 0) ∧ I' = jput I m 0 1) ∨ (rTh I a t ∧ ¬ (I m 21 = t ∧ l.length ≠ 0 ∧ l.length ≤ 800) ∧ v = some (ji 0) ∧ I' = jput I m 0 0) ∨ (rTh I a t ∧ (I m 21 = t ∧ l.length ≠ 0 ∧ l.length ≤ 800) ∧ ∃ g : Nat → Int, (∀ k, k < l.length → g k = l.getD k 0) ∧ tkQ I m a t.toNat l.length g (rdGo g l.length 201 (rdS0 h0) r0 []) v I'))) := by
  refine jC_intro (by decide +kernel) (by simp [jc, va_rf, Value.category]) (Nat.le_of_ble_eq_true rfl) ?_
  refine jJ_aload_n (pc := 0) dX7_take_0 rfl ?_
  refine jJ_iload_n (pc := 1) dX7_take_1 rfl ?_
  refine jJ_callVd (pc := 2) (as := [_]) dX7_take_2 mX7_216 (jRcv_of hR.1 rfl rfl) (Nat.le_of_ble_eq_true rfl) (jRm_ok (by omega) (by decide)) (r_isThere (d := d - 1) hR (by omega)) ?_
  by_cases ht : 0 ≤ t ∧ t < 12 ∧ I (a 5) t.toNat ≠ 0
  · obtain ⟨t', rfl⟩ : ∃ t' : Nat, t = (t' : Int) := ⟨t.toNat, by omega⟩
    rw [Int.toNat_natCast] at *
    have gT : rTh I a (t' : Int) := by rw [rTh, Int.toNat_natCast]; exact ht
    have ht' : t' < 12 := by omega
    rw [← jb_t ht, thM_t ht]
    have e21 : jput I m 0 0 m 21 = I m 21 := jput_k _ (by decide)
    have e20 : jput I m 0 0 m 20 = (l.length : Int) := by rw [jput_k _ (by decide)]; exact h20
    refine jJ_if_ne (pc := 5) (tgt := 10) dX7_take_5 (by decide) (fun c5 => ?_) (fun c5 => ?_)
    · have no : ¬ (I m 21 = (t' : Int) ∧ l.length ≠ 0 ∧ l.length ≤ 800) → jJ E yX7_take.cls cX7_take 5 (some .boolean) (jRm d) (jZ E (fun v I' P' => P' = P ∧ ((¬ rTh I a (t' : Int) ∧ v = some (ji 0) ∧ I' = jput I m 0 1) ∨ (rTh I a (t' : Int) ∧ ¬ (I m 21 = (t' : Int) ∧ l.length ≠ 0 ∧ l.length ≤ 800) ∧ v = some (ji 0) ∧ I' = jput I m 0 0) ∨ (rTh I a (t' : Int) ∧ (I m 21 = (t' : Int) ∧ l.length ≠ 0 ∧ l.length ≤ 800) ∧ ∃ g : Nat → Int, (∀ k, k < l.length → g k = l.getD k 0) ∧ tkQ I m a t' l.length g (rdGo g l.length 201 (rdS0 h0) r0 []) v I')))) 0 0 35 [some (jp m), some (ji (t' : Int)), none, none, none] [] (jput I m 0 0) P := by
        intro hc
        refine jJ_iconst (pc := 35) dX7_take_35 (by decide) ?_
        refine jJ_zret (pc := 36) dX7_take_36 rfl (Or.inl rfl) ?_
        exact ⟨rfl, Or.inr (Or.inl ⟨gT, hc, rfl, rfl⟩)⟩
      refine jJ_aload_n (pc := 10) dX7_take_10 rfl ?_
      refine jJ_geti (pc := 11) dX7_take_11 fX7_60 rfl hR.1 ?_
      try simp only [e21]
      refine jJ_iload_n (pc := 14) dX7_take_14 rfl ?_
      refine jJ_icmp_ne (pc := 15) (tgt := 35) dX7_take_15 (by decide) (fun c15 => ?_) (fun c15 => ?_)
      · exact no (fun z => c15 z.1)
      · refine jJ_aload_n (pc := 18) dX7_take_18 rfl ?_
        refine jJ_geti (pc := 19) dX7_take_19 fX7_264 rfl hR.1 ?_
        try simp only [e20]
        refine jJ_if_eq (pc := 22) (tgt := 35) dX7_take_22 (by decide) (fun c22 => ?_) (fun c22 => ?_)
        · exact no (by omega)
        · refine jJ_aload_n (pc := 25) dX7_take_25 rfl ?_
          refine jJ_geti (pc := 26) dX7_take_26 fX7_264 rfl hR.1 ?_
          try simp only [e20]
          refine jJ_sipush (pc := 29) dX7_take_29 (by decide) ?_
          refine jJ_icmp_le (pc := 32) (tgt := 37) dX7_take_32 (by decide) (fun c32 => ?_) (fun c32 => ?_)
          · have hg : I m 21 = (t' : Int) ∧ l.length ≠ 0 ∧ l.length ≤ 800 := ⟨c15, by omega, by omega⟩
            have f20 : jput (jput I m 0 0) (a 7) 12 (l.length : Int) m 20 = (l.length : Int) := by rw [jput_a _ (Ne.symm hR.n7)]; exact e20
            refine jJ_aload_n (pc := 37) dX7_take_37 rfl ?_
            refine jJ_getr (pc := 38) dX7_take_38 fX7_24 rfl hR.1 hR.p7 ?_
            try simp only [e20]
            refine jJ_bipush (pc := 41) dX7_take_41 (by decide) ?_
            refine jJ_aload_n (pc := 43) dX7_take_43 rfl ?_
            refine jJ_geti (pc := 44) dX7_take_44 fX7_264 rfl hR.1 ?_
            try simp only [e20]
            refine jJ_iast (pc := 47) dX7_take_47 hR.a7 ⟨by omega, by omega⟩ ?_
            try simp only [e20]
            refine jJ_iconst (pc := 48) dX7_take_48 (by decide) ?_
            refine jJ_istore_n (pc := 49) (ls' := [_, _, _, _, _]) dX7_take_49 (Nat.le_of_ble_eq_true rfl) rfl ?_
            refine jJ_I (show _ = cbM (jput (jput I m 0 0) (a 7) 12 (l.length : Int)) a (a 19) 0 by funext c j; simp only [cbM, cpM]; rw [if_neg (by omega)]; rfl) ?_
            refine take_cp hR f20 hg.2.2 (fun z => ?_) l.length 0 (by omega)
            have x19 : a 19 ≠ a 7 := hR.d (by decide) (by decide) (by decide)
            have x6 : a 8 ≠ a 6 := hR.d (by decide) (by decide) (by decide)
            have x7 : a 8 ≠ a 7 := hR.d (by decide) (by decide) (by decide)
            -- the memory with outOf set
            have ej : jput (cbM (jput (jput I m 0 0) (a 7) 12 (l.length : Int)) a (a 19) l.length) m 21 (-1) = cbM (jput (jput (jput I m 0 0) m 21 (-1)) (a 7) 12 (l.length : Int)) a (a 19) l.length := by
              funext c j
              simp only [cbM, cpM, jput]
              by_cases q : c = m
              · subst q
                simp [Ne.symm hR.n6, Ne.symm hR.n7]
              · simp only [q, false_and, if_false]
                by_cases q2 : a 19 = m
                · exact absurd q2 hR.n19
                · simp [q2]
            generalize hI1 : jput (jput I m 0 0) m 21 (-1) = I1 at *
            have i1m : ∀ k, k ≠ 0 → k ≠ 21 → I1 m k = I m k := fun k q0 q2 => by rw [← hI1, jput_k _ q2, jput_k _ q0]
            have i1o : ∀ b, b ≠ m → I1 b = I b := fun b q => by rw [← hI1]; funext j; rw [jput_a _ q, jput_a _ q]
            have i10 : I1 m 0 = 0 := by rw [← hI1, jput_k _ (by decide), jput_s]
            have i121 : I1 m 21 = -1 := by rw [← hI1, jput_s]
            have hgB : ∀ k, k < l.length → gB (cbM (jput I1 (a 7) 12 (l.length : Int)) a (a 19) l.length) a k = l.getD k 0 := fun k hk' => by
              rw [cbM_g hk', jput_a _ x19, i1o _ hR.n19]
              exact hk k hk'
            have e7 : cbM (jput I1 (a 7) 12 (l.length : Int)) a (a 19) l.length (a 7) 12 = (l.length : Int) := by
              rw [cbM_x (hR.d (by decide) (by decide) (by decide)), jput_s]
            have e8 : cbM (jput I1 (a 7) 12 (l.length : Int)) a (a 19) l.length (a 8) ((t' : Int).toNat) = I (a 8) t' := by
              rw [cbM_x x6, jput_a _ x7, i1o _ hR.n8, Int.toNat_natCast]
            have jm : ∀ k, cbM (jput I1 (a 7) 12 (l.length : Int)) a (a 19) l.length m k = I1 m k := fun k => by rw [cbM_x (Ne.symm hR.n6), jput_a _ (Ne.symm hR.n7)]
            refine jJ_aload_n (pc := 80) dX7_take_80 rfl ?_
            refine jJ_iconst (pc := 81) dX7_take_81 (by decide) ?_
            refine jJ_puti (pc := 82) dX7_take_82 fX7_60w rfl ⟨rfl, rfl⟩ hR.1 ?_
            rw [ej]
            generalize hJ : cbM (jput I1 (a 7) 12 (l.length : Int)) a (a 19) l.length = J at *
            refine jJ_aload_n (pc := 85) dX7_take_85 rfl ?_
            refine jJ_geti (pc := 86) dX7_take_86 fX7_119 rfl hR.1 ?_
            try simp only [e8]
            refine jJ_istore_n (pc := 89) (ls' := [_, _, _, _, _]) dX7_take_89 (Nat.le_of_ble_eq_true rfl) rfl ?_
            refine jJ_aload_n (pc := 90) dX7_take_90 rfl ?_
            refine jJ_geti (pc := 91) dX7_take_91 fX7_13 rfl hR.1 ?_
            try simp only [e8]
            refine jJ_istore_n (pc := 94) (ls' := [_, _, _, _, _]) dX7_take_94 (Nat.le_of_ble_eq_true rfl) rfl ?_
            refine jJ_aload_n (pc := 95) dX7_take_95 rfl ?_
            refine jJ_iload_n (pc := 96) dX7_take_96 rfl ?_
            refine jJ_aload_n (pc := 97) dX7_take_97 rfl ?_
            refine jJ_getr (pc := 98) dX7_take_98 fX7_27 rfl hR.1 hR.p8 ?_
            try simp only [e8]
            refine jJ_iload_n (pc := 101) dX7_take_101 rfl ?_
            refine jJ_iald (pc := 102) dX7_take_102 hR.a8 ⟨by omega, by omega⟩ ?_
            try simp only [e8]
            refine jJ_callV (pc := 103) (as := [_, _]) dX7_take_103 mX7_212 (jRcv_of hR.1 rfl rfl) (Nat.le_of_ble_eq_true rfl) (jRm_ok (by omega) (by decide)) (r_reads (d := d - 1) (h0 := h0) (r0 := r0) hR e7 hg.2.2 (fun k hk' => by rw [hgB k hk']; exact hb k hk') ht' (by omega)) ?_
            intro v J' P' hq
            obtain ⟨pp, pm, p3, p4, pv, rfl⟩ := reads_P (I := I1) (b := a 19) (k := l.length) (v := (l.length : Int)) hR ht' hg.2.2 (rdGo_len 201 _ _ [] (by decide)) hJ.symm hq
            rw [pv]
            generalize hWd : rdGo (gB J a) l.length 201 (rdS0 h0) r0 [] = W at *
            have hrd : rdP I m a t' W (l.length, gB J a, I (a 8) t', W.2.2.2.1, W.2.1 6) J' := by
              obtain ⟨q1, q2, q3, q4⟩ := pp
              have e5 : I1 (a 5) = I (a 5) := i1o _ hR.n5
              have er : ∀ j, 6 ≤ j → j ≤ 15 → I1 (a j) = I (a j) := fun j p q => i1o _ (hR.nm (rfK_515 j (by omega) q))
              exact ⟨fun b p q => (q1 b p q).trans (i1o b p), q2, fun z => ⟨by rw [(q3 z).1, e5], fun y p q => (q3 z).2 y p (q.cg er)⟩, fun u p q => ⟨by rw [(q4 u p q).1, e5], fun y p' q' => (q4 u p q).2 y p' (q'.cg er)⟩⟩
            refine jJ_istore (pc := 106) (ls' := [_, _, _, _, _]) dX7_take_106 (Nat.le_of_ble_eq_true rfl) rfl ?_
            refine jJ_aload_n (pc := 108) dX7_take_108 rfl ?_
            refine jJ_iload_n (pc := 109) dX7_take_109 rfl ?_
            refine jJ_puti (pc := 110) dX7_take_110 fX7_119w rfl ⟨rfl, rfl⟩ hR.1 ?_
            refine jJ_aload_n (pc := 113) dX7_take_113 rfl ?_
            refine jJ_iload_n (pc := 114) dX7_take_114 rfl ?_
            refine jJ_puti (pc := 115) dX7_take_115 fX7_13w rfl ⟨rfl, rfl⟩ hR.1 ?_
            refine jJ_iload (pc := 118) dX7_take_118 rfl ?_
            refine jJ_zret (pc := 120) dX7_take_120 rfl jb_01 ?_
            refine ⟨rfl, Or.inr (Or.inr ⟨gT, hg, gB J a, hgB, ?_⟩)⟩
            rw [hWd]
            refine ⟨rfl, (hrd.pm hR).pm hR, fun k hk' => ?_, ?_, ?_⟩
            · by_cases q4 : k = 4
              · rw [q4, jput_s, jm, i1m 4 (by decide) (by decide)]
              · rw [jput_k _ q4]
                by_cases q3 : k = 3
                · rw [q3, jput_s, jm, i1m 3 (by decide) (by decide)]
                · rw [jput_k _ q3, pm k (by omega), i1m k (by omega) (by omega)]
            · rw [jput_k _ (by decide), jput_k _ (by decide), pm 0 (by decide), i10]
            · rw [jput_k _ (by decide), jput_k _ (by decide), pm 21 (by decide), i121]
          · exact no (by omega)
    · exact absurd c5 (by decide)
  · rw [← jb_f ht, thM_f ht]
    refine jJ_if_ne (pc := 5) (tgt := 10) dX7_take_5 (by decide) (fun c5 => ?_) (fun c5 => ?_)
    · exact absurd rfl c5
    · refine jJ_iconst (pc := 8) dX7_take_8 (by decide) ?_
      refine jJ_zret (pc := 9) dX7_take_9 rfl (Or.inl rfl) ?_
      exact ⟨rfl, Or.inl ⟨ht, rfl, rfl⟩⟩
end JRX2
