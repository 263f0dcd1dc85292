section JFind2
variable {E : jE} {I : jI} {P : jP} {d : Nat} {h : Nat}
theorem tsM_ok {x : Nat → Nat} {q u : Nat → Nat → Nat} (hu : TaD u) (hI : ∀ t, t < 12 → I (x t) 8 ≠ 0 → TxG I (x t) (q t)) : ∀ (k i : Nat) (J : jI), i + k = 12 → taB J u (600 * i) → taB (tsM I x q u i k J) u 7200 ∧ ∀ a, ¬ taS u a → tsM I x q u i k J a = J a
  | 0, i, J, hi, hB => ⟨fun k hk => ⟨fun j hj => by have := (hB k hk).1 j hj; simp only [tsM]; omega, fun j hj => by have := (hB k hk).2 j hj; simp only [tsM]; omega⟩, fun a ha => rfl⟩
  | k + 1, i, J, hi, hB => by
    rw [tsM]
    by_cases c : I (x i) 8 ≠ 0
    · obtain ⟨hc, hg6, hg5, hg10⟩ := hI i (by omega) c
      have hgn : gapsN (I (x i) 11) ≤ 199 := by unfold gapsN; split <;> omega
      have hb2 := tgM_taB (tst := fun g => tstV (I (q i 5) g) (I (x i) 10) (I (q i 4) (g + 1))) (ch := I (q i 7)) hu (gapsN (I (x i) 11)) 0 J (600 * i) (fun j hj => hg6 j (by omega)) hB
      rw [if_pos c]
      obtain ⟨r1, r2⟩ := tsM_ok hu hI k (i + 1) (tgM J (I (q i 6)) (fun g => tstV (I (q i 5) g) (I (x i) 10) (I (q i 4) (g + 1))) (I (q i 7)) u 0 (gapsN (I (x i) 11))) (by omega) (fun k hk => ⟨fun j hj => by have := (hb2 k hk).1 j hj; omega, fun j hj => by have := (hb2 k hk).2 j hj; omega⟩)
      exact ⟨r1, fun a ha => by rw [r2 a ha]; exact tgM_x ha _ 0 J (fun j hj => hg6 j (by omega))⟩
    · rw [if_neg c]
      exact tsM_ok hu hI k (i + 1) J (by omega) (fun k hk => ⟨fun j hj => by have := (hB k hk).1 j hj; omega, fun j hj => by have := (hB k hk).2 j hj; omega⟩)
/-- the memory behind the tallying -/
def taM (I : jI) (x : Nat → Nat) (q u : Nat → Nat → Nat) : jI := tsM I x q u 0 12 (clM I u 16)
theorem taM_ok {x : Nat → Nat} {q u : Nat → Nat → Nat} (hu : TaD u) (hI : ∀ t, t < 12 → I (x t) 8 ≠ 0 → TxG I (x t) (q t)) : taB (taM I x q u) u 7200 ∧ ∀ a, ¬ taS u a → taM I x q u a = I a := by
  obtain ⟨r1, r2⟩ := tsM_ok (x := x) (q := q) hu hI 12 0 (clM I u 16) (by omega) (fun k hk => by
    obtain ⟨g0, g1⟩ := clM_0 (J := I) hu 16 (by decide) k hk
    exact ⟨fun j hj => by rw [g0 j hj]; simp, fun j hj => by rw [g1 j hj]; simp⟩)
  exact ⟨r1, fun a ha => by rw [taM, r2 a ha]; exact clM_x ha 16 (by decide)⟩
/-- the habits of the first k kinds are found -/
def fnM (K : jI) (tp xp : Int) (t hb : Nat → Nat) (u : Nat → Nat → Nat) : Nat → jI
  | 0 => K
  | k + 1 => habR (jput (jput (fnM K tp xp t hb u k) (t k) 2 tp) (t k) 3 xp) (hb k) (srch (K (u k 0)) (K (u k 1)) tp xp (fnM K tp xp t hb u k (hb k)))
theorem fnM_x {K : jI} {tp xp : Int} {t hb : Nat → Nat} {u : Nat → Nat → Nat} {a : Nat} : ∀ k, (∀ j, j < k → a ≠ t j ∧ a ≠ hb j) → fnM K tp xp t hb u k a = K a
  | 0, _ => rfl
  | k + 1, hn => by
    have h1 := hn k (by omega)
    funext j
    rw [fnM, habR_x h1.2, jput_a _ h1.1, jput_a _ h1.1, fnM_x k (fun j hj => hn j (by omega))]
/-- the sum of the costs of the first k kinds -/
def fnC (K : jI) (tp xp : Int) (t hb : Nat → Nat) (u : Nat → Nat → Nat) : Nat → Int
  | 0 => 0
  | k + 1 => fnC K tp xp t hb u k + srch (K (u k 0)) (K (u k 1)) tp xp (fnM K tp xp t hb u k (hb k)) 6
/-- how THE STYLE lies -/
def SyL (E : jE) (P : jP) (h sy : Nat) (hb : Nat → Nat) : Prop := P h 10 = some sy ∧ jAr E 11 sy 16 ∧ ∀ k, k < 16 → P sy k = some (hb k) ∧ jK E 0 (hb k)
theorem find_loop {tl sy : Nat} {t hb : Nat → Nat} {u : Nat → Nat → Nat} {K : jI} (h0 : jK E 6 h) (hTa : TaL E P h tl t u) (hSy : SyL E P h sy hb) (hK : taB K u 7200) (hp1 : 0 ≤ K h 7 ∧ K h 7 ≤ 100) (hp2 : 0 ≤ K h 8 ∧ K h 8 ≤ 100) (hd : 8 ≤ d) :
    ∀ (k i : Nat) (s : Int), i + k = 16 → s = fnC K (K h 7) (K h 8) t hb u i → (-4000000 * (i : Int) ≤ s ∧ s ≤ 4000000 * i) → jJ E yX6_find.cls cX6_find 3 (some .int) (jRm d) (jZ E (jD (some (ji (fnC K (K h 7) (K h 8) t hb u 16))) (jput (fnM K (K h 7) (K h 8) t hb u 16) h 11 1) P)) 0 0 8 [some (jp h), some (ji s), some (ji (i : Int))] [] (fnM K (K h 7) (K h 8) t hb u i) P := by
  obtain ⟨p9, atl, hTs⟩ := hTa
  obtain ⟨p10, asy, hSs⟩ := hSy
  have nh : ∀ k, k ≤ 16 → fnM K (K h 7) (K h 8) t hb u k h = K h := fun k hk => fnM_x k (fun j hj => ⟨jne h0.2 (hTs j (by omega)).2.1.2 (by decide), jne h0.2 (hSs j (by omega)).2.2 (by decide)⟩)
  have nu : ∀ k l, k ≤ 16 → l < 16 → fnM K (K h 7) (K h 8) t hb u k (u l 0) = K (u l 0) ∧ fnM K (K h 7) (K h 8) t hb u k (u l 1) = K (u l 1) := fun k l hk hl =>
    ⟨fnM_x k (fun j hj => ⟨jne (hTs l hl).2.2.2.2.1.2.1 (hTs j (by omega)).2.1.2 (by decide), jne (hTs l hl).2.2.2.2.1.2.1 (hSs j (by omega)).2.2 (by decide)⟩), fnM_x k (fun j hj => ⟨jne (hTs l hl).2.2.2.2.2.1.2.1 (hTs j (by omega)).2.1.2 (by decide), jne (hTs l hl).2.2.2.2.2.1.2.1 (hSs j (by omega)).2.2 (by decide)⟩)⟩
  intro k
  induction k with
  | zero =>
    intro i s hi hs hsr
    refine jJ_iload_n (pc := 8) dX6_find_8 rfl ?_
    refine jJ_bipush (pc := 9) dX6_find_9 (by decide) ?_
    refine jJ_icmp_ge (pc := 11) (tgt := 55) dX6_find_11 (by decide) (fun c11 => ?_) (fun c11 => ?_)
    · refine jJ_aload_n (pc := 55) dX6_find_55 rfl ?_
      refine jJ_iconst (pc := 56) dX6_find_56 (by decide) ?_
      refine jJ_puti (pc := 57) dX6_find_57 fX6_171w rfl ⟨by decide, by decide⟩ (by assumption) ?_
      refine jJ_iload_n (pc := 60) dX6_find_60 rfl ?_
      refine jJ_iret (pc := 61) dX6_find_61 rfl ?_
      exact ⟨by rw [hs, show i = 16 by omega], by rw [show i = 16 by omega], rfl⟩
    · exfalso
      omega
  | succ k ih =>
    intro i s hi hs hsr
    obtain ⟨pt, htl⟩ := hTs i (by omega)
    obtain ⟨py, ky⟩ := hSs i (by omega)
    have ht1 := htl.1
    have ptn : P tl ((i : Int)).toNat = some (t i) := by rw [Int.toNat_natCast]; exact pt
    have pyn : P sy ((i : Int)).toNat = some (hb i) := by rw [Int.toNat_natCast]; exact py
    obtain ⟨e0, e1⟩ := nu i i (by omega) (by omega)
    have f0 : few (K (u i 0)) 3 := fun j hj => by have := (hK i (by omega)).1 j hj; omega
    have f1 : few (K (u i 1)) 300 := fun j hj => by have := (hK i (by omega)).2 j hj; omega
    have hcst := srch_c (b := fnM K (K h 7) (K h 8) t hb u i (hb i)) f0 f1 hp1 hp2
    refine jJ_iload_n (pc := 8) dX6_find_8 rfl ?_
    refine jJ_bipush (pc := 9) dX6_find_9 (by decide) ?_
    refine jJ_icmp_ge (pc := 11) (tgt := 55) dX6_find_11 (by decide) (fun c11 => ?_) (fun c11 => ?_)
    · exfalso
      omega
    · refine jJ_aload_n (pc := 14) dX6_find_14 rfl ?_
      refine jJ_getr (pc := 15) dX6_find_15 fX6_43 rfl (by assumption) (by first | exact p9 | exact ptn) ?_
      refine jJ_iload_n (pc := 18) dX6_find_18 rfl ?_
      refine jJ_aald (pc := 19) (t0 := 4) dX6_find_19 atl rfl (by decide) ⟨by omega, by omega⟩ (by first | exact p9 | exact ptn) ?_
      refine jJ_aload_n (pc := 20) dX6_find_20 rfl ?_
      refine jJ_getr (pc := 21) dX6_find_21 fX6_49 rfl (by assumption) (by first | exact p10 | exact pyn) ?_
      refine jJ_iload_n (pc := 24) dX6_find_24 rfl ?_
      refine jJ_aald (pc := 25) (t0 := 3) dX6_find_25 asy rfl (by decide) ⟨by omega, by omega⟩ (by first | exact p10 | exact pyn) ?_
      refine jJ_aload_n (pc := 26) dX6_find_26 rfl ?_
      refine jJ_geti (pc := 27) dX6_find_27 fX6_35 rfl (by assumption) ?_
      refine jJ_aload_n (pc := 30) dX6_find_30 rfl ?_
      refine jJ_geti (pc := 31) dX6_find_31 fX6_38 rfl (by assumption) ?_
      rw [nh i (by omega)]
      refine jJ_callVd (pc := 34) (as := [_, _, _]) dX6_find_34 mX6_164 (jRcv_of ht1 rfl rfl) (Nat.le_of_ble_eq_true rfl) (jRm_ok (by omega) (by decide)) (c_Tally_search (d := d - 1) htl ky (by rw [e0]; exact f0) (by rw [e1]; exact f1) hp1 hp2 (by omega)) ?_
      rw [e0, e1]
      refine jJ_iload_n (pc := 37) dX6_find_37 rfl ?_
      refine jJ_aload_n (pc := 38) dX6_find_38 rfl ?_
      refine jJ_getr (pc := 39) dX6_find_39 fX6_49 rfl (by assumption) (by first | exact p10 | exact pyn) ?_
      refine jJ_iload_n (pc := 42) dX6_find_42 rfl ?_
      refine jJ_aald (pc := 43) (t0 := 3) dX6_find_43 asy rfl (by decide) ⟨by omega, by omega⟩ (by first | exact p10 | exact pyn) ?_
      refine jJ_geti (pc := 44) dX6_find_44 fX6_168 rfl ky ?_
      rw [habR_s (by decide)]
      obtain ⟨hc1, hc2⟩ := hcst
      refine jJ_iadd (pc := 47) dX6_find_47 ⟨by omega, by omega⟩ ?_
      refine jJ_istore_n (pc := 48) (ls' := [_, _, _]) dX6_find_48 (Nat.le_of_ble_eq_true rfl) rfl ?_
      refine jJ_iinc (pc := 49) (ls' := [_, _, _]) dX6_find_49 rfl ⟨by omega, by omega⟩ rfl ?_
      refine jJ_goto (pc := 52) (tgt := 8) dX6_find_52 (by decide) ?_
      exact ih (i + 1) _ (by omega) (by rw [fnC, hs]) (by omega)
theorem c_find {tl tx sy : Nat} {t hb : Nat → Nat} {u : Nat → Nat → Nat} {x : Nat → Nat} {q : Nat → Nat → Nat} (h0 : jK E 6 h) (hTa : TaL E P h tl t u) (hu : TaD u) (hSy : SyL E P h sy hb) (hT : TsL E P h tx x q) (hqu : ∀ t, t < 12 → ∀ i, i ≤ 7 → ¬ taS u (q t i)) (hxu : ∀ t, t < 12 → ¬ taS u (x t)) (hI : ∀ t, t < 12 → I (x t) 8 ≠ 0 → TxG I (x t) (q t)) (hp1 : 0 ≤ I h 7 ∧ I h 7 ≤ 100) (hp2 : 0 ≤ I h 8 ∧ I h 8 ≤ 100) (hd : 8 ≤ d) :
    jC E yX6_find cX6_find 3 (some .int) d [jp h] I P (jD (some (ji (fnC (taM I x q u) (I h 7) (I h 8) t hb u 16))) (jput (fnM (taM I x q u) (I h 7) (I h 8) t hb u 16) h 11 1) P) := by
  obtain ⟨r1, r2⟩ := taM_ok (x := x) (q := q) hu hI
  have nh : ¬ taS u h := by
    rintro ⟨k, i, hk, hi, e⟩
    have h2 := (hTa.2.2 k hk).2
    rcases (show i = 0 ∨ i = 1 by omega) with rfl | rfl
    · exact jne h0.2 h2.2.2.2.1.2.1 (by decide) e
    · exact jne h0.2 h2.2.2.2.2.1.2.1 (by decide) e
  have eh := r2 h nh
  refine jC_intro (by decide +kernel) (by simp [jc, va_rf, Value.category]) (Nat.le_of_ble_eq_true rfl) ?_
  refine jJ_aload_n (pc := 0) dX6_find_0 rfl ?_
  refine jJ_callVd (pc := 1) (as := []) dX6_find_1 mX6_161 (jRcv_of (by assumption) rfl rfl) (Nat.le_of_ble_eq_true rfl) (jRm_ok (by omega) (by decide)) (c_tallyAll (d := d - 1) h0 hTa hu hT hqu hxu hI (by omega)) ?_
  refine jJ_iconst (pc := 4) dX6_find_4 (by decide) ?_
  refine jJ_istore_n (pc := 5) (ls' := [_, _, _]) dX6_find_5 (Nat.le_of_ble_eq_true rfl) rfl ?_
  refine jJ_iconst (pc := 6) dX6_find_6 (by decide) ?_
  refine jJ_istore_n (pc := 7) (ls' := [_, _, _]) dX6_find_7 (Nat.le_of_ble_eq_true rfl) rfl ?_
  have k := find_loop (K := taM I x q u) (d := d) h0 hTa hSy r1 (by rw [eh]; exact hp1) (by rw [eh]; exact hp2) hd 16 0 0 (by omega) rfl (by omega)
  rw [eh] at k
  exact k
/-! OUT's end -/
theorem c_endOut {o r : Nat} {t most : Int} {w : List Int × Int} (h0 : jK E 6 h) (p12 : P h 12 = some o) (ho : jK E 2 o) (hd : 2 ≤ d) :
    jC E yX6_endOut cX6_endOut 3 (some .int) d [jp h, ji t, ji most] (outM I o r w) P (jD (some (ji (if w.2 ≠ 0 ∨ most < (w.1.length : Int) then -1 else (w.1.length : Int)))) (if w.2 ≠ 0 ∨ most < (w.1.length : Int) then jput (outM (outM I o r w) o r ([], 0)) h 13 (-1) else jput (outM I o r w) h 13 t) P) := by
  have hoh : o ≠ h := jne ho.2 h0.2 (by decide)
  refine jC_intro (by decide +kernel) (by simp [jc, va_rf, Value.category]) (Nat.le_of_ble_eq_true rfl) ?_
  refine jJ_aload_n (pc := 0) dX6_endOut_0 rfl ?_
  refine jJ_getr (pc := 1) dX6_endOut_1 fX6_56 rfl (by assumption) (by assumption) ?_
  refine jJ_geti (pc := 4) dX6_endOut_4 fX6_217 rfl (by assumption) ?_
  rw [outM_2]
  refine jJ_if_ne (pc := 7) (tgt := 21) dX6_endOut_7 (by decide) (fun c7 => ?_) (fun c7 => ?_)
  · refine jJ_aload_n (pc := 21) dX6_endOut_21 rfl ?_
    refine jJ_callVd (pc := 22) (as := []) dX6_endOut_22 mX6_194 (jRcv_of (by assumption) rfl rfl) (Nat.le_of_ble_eq_true rfl) (jRm_ok (by omega) (by decide)) (c_clearOut (r := r) (d := d - 1) h0 p12 ho (by omega)) ?_
    refine jJ_iconst (pc := 25) dX6_endOut_25 (by decide) ?_
    refine jJ_iret (pc := 26) dX6_endOut_26 rfl ?_
    exact ⟨by rw [if_pos (Or.inl c7)], by rw [if_pos (Or.inl c7)], rfl⟩
  · refine jJ_aload_n (pc := 10) dX6_endOut_10 rfl ?_
    refine jJ_getr (pc := 11) dX6_endOut_11 fX6_56 rfl (by assumption) (by assumption) ?_
    refine jJ_geti (pc := 14) dX6_endOut_14 fX6_220 rfl (by assumption) ?_
    rw [outM_1]
    refine jJ_iload_n (pc := 17) dX6_endOut_17 rfl ?_
    refine jJ_icmp_le (pc := 18) (tgt := 27) dX6_endOut_18 (by decide) (fun c18 => ?_) (fun c18 => ?_)
    · refine jJ_aload_n (pc := 27) dX6_endOut_27 rfl ?_
      refine jJ_iload_n (pc := 28) dX6_endOut_28 rfl ?_
      refine jJ_puti (pc := 29) dX6_endOut_29 fX6_60w rfl ⟨rfl, rfl⟩ (by assumption) ?_
      refine jJ_aload_n (pc := 32) dX6_endOut_32 rfl ?_
      refine jJ_getr (pc := 33) dX6_endOut_33 fX6_56 rfl (by assumption) (by assumption) ?_
      refine jJ_geti (pc := 36) dX6_endOut_36 fX6_220 rfl (by assumption) ?_
      rw [jput_a _ hoh, outM_1]
      refine jJ_iret (pc := 39) dX6_endOut_39 rfl ?_
      exact ⟨by rw [if_neg (by omega)], by rw [if_neg (by omega)], rfl⟩
    · refine jJ_aload_n (pc := 21) dX6_endOut_21 rfl ?_
      refine jJ_callVd (pc := 22) (as := []) dX6_endOut_22 mX6_194 (jRcv_of (by assumption) rfl rfl) (Nat.le_of_ble_eq_true rfl) (jRm_ok (by omega) (by decide)) (c_clearOut (r := r) (d := d - 1) h0 p12 ho (by omega)) ?_
      refine jJ_iconst (pc := 25) dX6_endOut_25 (by decide) ?_
      refine jJ_iret (pc := 26) dX6_endOut_26 rfl ?_
      exact ⟨by rw [if_pos (by omega)], by rw [if_pos (by omega)], rfl⟩
end JFind2
