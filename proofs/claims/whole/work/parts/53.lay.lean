section JLay
variable {E : jE} {I : jI} {P : jP} {d : Nat} {h : Nat}
theorem outM_putH {I : jI} {o r a k : Nat} {v : Int} {w : List Int × Int} (h1 : a ≠ o) (h2 : a ≠ r) : jput (outM I o r w) a k v = outM (jput I a k v) o r w := by
  funext b j
  by_cases hb : b = a ∧ j = k
  · obtain ⟨rfl, rfl⟩ := hb
    rw [jput_s, outM_x _ _ h1 h2, jput_s]
  · simp only [jput, if_neg hb, outM]
theorem tolV_fr {S : List Nat} {I J : jI} {x : Nat} {q hb : Nat → Nat} (hf : fr S I J) (hx : x ∉ S) (h4 : q 4 ∉ S) (h5 : q 5 ∉ S) (h6 : q 6 ∉ S) {g : Nat} (hk : 0 ≤ I (q 6) g ∧ I (q 6) g ≤ 15) (hh : ∀ k, k < 16 → hb k ∉ S) : tolV J x q hb g = tolV I x q hb g := by
  unfold tolV
  rw [hf _ hx, hf _ h4, hf _ h5, hf _ h6, hf _ (hh (I (q 6) g).toNat (by omega))]
/-- the k TOKENS from i on are laid -/
def layW (tol dp : Nat → Int) (nm : Nat → List Int) : Nat → Nat → List Int × Int → List Int × Int
  | 0, _, w => w
  | k + 1, i, w => layW tol dp nm k (i + 1) (oall (if 0 < i then oall w (gapB (tol (i - 1)) (dp i)) else w) (nm i))
theorem layW_congr {tol tol' dp : Nat → Int} {nm : Nat → List Int} : ∀ (m i : Nat) (w : List Int × Int), (∀ j, j + 1 < i + m → tol j = tol' j) → layW tol dp nm m i w = layW tol' dp nm m i w
  | 0, i, w, _ => rfl
  | m + 1, i, w, h => by
    rw [layW, layW, layW_congr m (i + 1) _ (fun j hj => h j (by omega))]
    by_cases hi0 : 0 < i
    · rw [if_pos hi0, if_pos hi0, h (i - 1) (by omega)]
    · rw [if_neg hi0, if_neg hi0]
theorem lay_loop {x sy o r n : Nat} {q hb : Nat → Nat} {t : Int} {c0 : Prop} {X : String → jI → jP → Prop} {ZQ : Option jV → jI → jP → Prop} (h0 : jK E 6 h) (hSy : SyL E P h sy hb) (p12 : P h 12 = some o) (ho : jK E 2 o) (hor : P o 0 = some r) (hra : jAr E 8 r 2000) (hx : TxL E P x q) (hqr : q 0 ≠ r) (hn : I x 11 = (n : Int)) (hG : TxG I x q) (hR : TokR2 I q n) (hD : ∀ i, i < n → 0 ≤ I (q 4) i ∧ I (q 4) i ≤ 1000) (hd : 7 ≤ d)
    (kk : ∀ w : List Int × Int, w.1.length ≤ 2000 → w = layW (tolV I x q hb) (I (q 4)) (tNm I q) n 0 ([], 0) → jJ E yX6_lay.cls cX6_lay 4 (some .int) (jRmx d 1) (jZx E ZQ X 1) 1 6 83 [some (jp h), some (ji t), some (jp x), some (ji (n : Int))] [] (outM I o r w) P) :
    ∀ (k i : Nat) (w : List Int × Int), i + k = n → w.1.length ≤ 2000 → layW (tolV I x q hb) (I (q 4)) (tNm I q) k i w = layW (tolV I x q hb) (I (q 4)) (tNm I q) n 0 ([], 0) → jJ E yX6_lay.cls cX6_lay 4 (some .int) (jRmx d 1) (jZx E ZQ X 1) 1 6 21 [some (jp h), some (ji t), some (jp x), some (ji (i : Int))] [] (outM I o r w) P := by
  obtain ⟨p10, asy, hSs⟩ := hSy
  have hx0 := hx
  obtain ⟨g0, ⟨p0, p1, p2, p3, p4, p5, p6, p7⟩, ⟨a0, a1, a2, a3, a4, a5, a6, a7⟩⟩ := hx
  obtain ⟨hc, hg6, hg5, hg10⟩ := hG
  have hor' : o ≠ r := jne ho.2 hra.2.1 (by decide)
  have hgn : gapsN (I x 11) = n - 1 := by unfold gapsN; split <;> omega
  have xo : x ≠ o := jne g0.2 ho.2 (by decide)
  have xr : x ≠ r := jne g0.2 hra.2.1 (by decide)
  have qo : ∀ j, j ≤ 7 → q j ≠ o := fun j hj => by
    rcases hx0.kq j hj with z | z
    · exact jne z ho.2 (by decide)
    · exact jne z ho.2 (by decide)
  have qr : ∀ j, j ≤ 7 → q j ≠ r := fun j hj => by
    have : j = 0 ∨ j = 1 ∨ j = 2 ∨ j = 3 ∨ j = 4 ∨ j = 5 ∨ j = 6 ∨ j = 7 := by omega
    rcases this with rfl | rfl | rfl | rfl | rfl | rfl | rfl | rfl
    · exact hqr
    · exact jne a1.2.1 hra.2.1 (by decide)
    · exact jne a2.2.1 hra.2.1 (by decide)
    · exact jne a3.2.1 hra.2.1 (by decide)
    · exact jne a4.2.1 hra.2.1 (by decide)
    · exact jne a5.2.1 hra.2.1 (by decide)
    · exact jne a6.2.1 hra.2.1 (by decide)
    · exact jne a7.2.1 hra.2.1 (by decide)
  have qS : ∀ j, j ≤ 7 → q j ∉ [o, r] := fun j hj => by simp [qo j hj, qr j hj]
  have hS : ∀ k, k < 16 → hb k ∉ [o, r] := fun k hk => by
    simp [jne (hSs k hk).2.2 ho.2 (by decide : (0 : Nat) ≠ 2), jne (hSs k hk).2.2 hra.2.1 (by decide : (0 : Nat) ≠ 8)]
  have ox : ∀ (w : List Int × Int) (a : Nat), a ∉ [o, r] → outM I o r w a = I a := fun w a ha => fr_out a ha
  intro k
  induction k with
  | zero =>
    intro i w hi hw he
    refine jJ_iload_n (pc := 21) dX6_lay_21 rfl ?_
    refine jJ_aload_n (pc := 22) dX6_lay_22 rfl ?_
    refine jJ_geti (pc := 23) dX6_lay_23 fX6_128 rfl (by assumption) ?_
    rw [outM_x _ _ xo xr, hn]
    refine jJ_icmp_ge (pc := 26) (tgt := 83) dX6_lay_26 (by decide) (fun c26 => ?_) (fun c26 => ?_)
    · have := kk w hw he
      rw [show i = n by omega]
      exact this
    · exfalso
      omega
  | succ k ih =>
    intro i w hi hw he
    rw [layW] at he
    have hRi := hR i (by omega)
    have hDi := hD i (by omega)
    have tail : ∀ w' : List Int × Int, w'.1.length ≤ 2000 → layW (tolV I x q hb) (I (q 4)) (tNm I q) k (i + 1) (oall w' (tNm I q i)) = layW (tolV I x q hb) (I (q 4)) (tNm I q) n 0 ([], 0) → jJ E yX6_lay.cls cX6_lay 4 (some .int) (jRmx d 1) (jZx E ZQ X 1) 1 6 54 [some (jp h), some (ji t), some (jp x), some (ji (i : Int))] [] (outM I o r w') P := by
      intro w' hw' he'
      refine jJ_aload_n (pc := 54) dX6_lay_54 rfl ?_
      refine jJ_getr (pc := 55) dX6_lay_55 fX6_56 rfl (by assumption) (by first | exact p12 | exact p0 | exact p1) ?_
      refine jJ_aload_n (pc := 58) dX6_lay_58 rfl ?_
      refine jJ_getr (pc := 59) dX6_lay_59 fX6_201 rfl (by assumption) (by first | exact p12 | exact p0 | exact p1) ?_
      refine jJ_aload_n (pc := 62) dX6_lay_62 rfl ?_
      refine jJ_getr (pc := 63) dX6_lay_63 fX6_204 rfl (by assumption) (by first | exact p12 | exact p0 | exact p1) ?_
      refine jJ_iload_n (pc := 66) dX6_lay_66 rfl ?_
      refine jJ_iald (pc := 67) dX6_lay_67 a1 ⟨by omega, by omega⟩ ?_
      rw [Int.toNat_natCast, ox w' _ (qS 1 (by decide))]
      refine jJ_aload_n (pc := 68) dX6_lay_68 rfl ?_
      refine jJ_getr (pc := 69) dX6_lay_69 fX6_207 rfl (by assumption) (by assumption) ?_
      refine jJ_iload_n (pc := 72) dX6_lay_72 rfl ?_
      refine jJ_iald (pc := 73) dX6_lay_73 a2 ⟨by omega, by omega⟩ ?_
      rw [Int.toNat_natCast, ox w' _ (qS 2 (by decide))]
      refine jJ_callVd (pc := 74) (as := [_, _, _]) dX6_lay_74 mX6_210 (jRcv_of (by assumption) rfl rfl) (Nat.le_of_ble_eq_true rfl) (jRmx_ok (by omega) (by decide) (by decide) (by decide)) (c_Out_putAll (d := d - 1) ho hor hra hor' a0 (qo 0 (by decide)) (qr 0 (by decide)) (by decide) (by omega) hw' (by omega)) ?_
      rw [show min (I (q 2) i) ((800 : Nat) : Int) - ((I (q 1) i).toNat : Int) = I (q 2) i - I (q 1) i by omega, show rowF (I (q 0)) (I (q 1) i).toNat (I (q 2) i - I (q 1) i).toNat = tNm I q i from rfl]
      refine jJ_iinc (pc := 77) (ls' := [_, _, _, _]) dX6_lay_77 rfl ⟨by omega, by omega⟩ rfl ?_
      refine jJ_goto (pc := 80) (tgt := 21) dX6_lay_80 (by decide) ?_
      exact ih (i + 1) _ (by omega) (oall_len _ hw') he'
    refine jJ_iload_n (pc := 21) dX6_lay_21 rfl ?_
    refine jJ_aload_n (pc := 22) dX6_lay_22 rfl ?_
    refine jJ_geti (pc := 23) dX6_lay_23 fX6_128 rfl (by assumption) ?_
    rw [outM_x _ _ xo xr, hn]
    refine jJ_icmp_ge (pc := 26) (tgt := 83) dX6_lay_26 (by decide) (fun c26 => ?_) (fun c26 => ?_)
    · exfalso
      omega
    · refine jJ_iload_n (pc := 29) dX6_lay_29 rfl ?_
      refine jJ_if_le (pc := 30) (tgt := 54) dX6_lay_30 (by decide) (fun c30 => ?_) (fun c30 => ?_)
      · exact tail w hw (by rw [if_neg (by omega)] at he; exact he)
      · rw [if_pos (by omega)] at he
        have hk1 := hg6 (i - 1) (by omega)
        have htl := c_toldAt (E := E) (I := outM I o r w) (P := P) (d := d - 1) (h := h) (x := x) (sy := sy) (g := i - 1) (q := q) (hb := hb) h0 p10 asy hSs hx0 (by omega) (by rw [ox w _ (qS 6 (by decide))]; exact hk1) (by rw [ox w _ (qS 5 (by decide))]; exact hg5 (i - 1) (by omega)) (by rw [outM_x _ _ xo xr]; exact hg10) (by omega)
        rw [show (((i - 1 : Nat)) : Int) = (i : Int) - 1 by omega, tolV_fr (fr_out (I := I) (o := o) (r := r) (w := w)) (by simp [xo, xr]) (qS 4 (by decide)) (qS 5 (by decide)) (qS 6 (by decide)) hk1 hS] at htl
        refine jJ_aload_n (pc := 33) dX6_lay_33 rfl ?_
        refine jJ_getr (pc := 34) dX6_lay_34 fX6_56 rfl (by assumption) p12 ?_
        refine jJ_aload_n (pc := 37) dX6_lay_37 rfl ?_
        refine jJ_aload_n (pc := 38) dX6_lay_38 rfl ?_
        refine jJ_iload_n (pc := 39) dX6_lay_39 rfl ?_
        refine jJ_iconst (pc := 40) dX6_lay_40 (by decide) ?_
        refine jJ_isub (pc := 41) dX6_lay_41 ⟨by omega, by omega⟩ ?_
        refine jJ_callVd (pc := 42) (as := [_, _]) dX6_lay_42 mX6_187 (jRcv_of (by assumption) rfl rfl) (Nat.le_of_ble_eq_true rfl) (jRmx_ok (by omega) (by decide) (by decide) (by decide)) (htl) ?_
        refine jJ_aload_n (pc := 45) dX6_lay_45 rfl ?_
        refine jJ_getr (pc := 46) dX6_lay_46 fX6_150 rfl (by assumption) (by assumption) ?_
        refine jJ_iload_n (pc := 49) dX6_lay_49 rfl ?_
        refine jJ_iald (pc := 50) dX6_lay_50 a4 ⟨by omega, by omega⟩ ?_
        rw [Int.toNat_natCast, ox w _ (qS 4 (by decide))]
        refine jJ_callVd (pc := 51) (as := [_, _]) dX6_lay_51 mX6_197 (jRcv_of (by assumption) rfl rfl) (Nat.le_of_ble_eq_true rfl) (jRmx_ok (by omega) (by decide) (by decide) (by decide)) (c_Out_putGap (d := d - 1) ho hor hra hor' hDi hw (by omega)) ?_
        exact tail _ (oall_len _ hw) he
/-- the memory behind lay() and turn(): OUT was made, most bytes at most -/
def ouM (I : jI) (h o r : Nat) (w : List Int × Int) (most t : Int) : jI := if w.2 ≠ 0 ∨ most < (w.1.length : Int) then jput (outM (outM (jput I h 13 (-1)) o r w) o r ([], 0)) h 13 (-1) else jput (outM (jput I h 13 (-1)) o r w) h 13 t
def ouV (w : List Int × Int) (most : Int) : Int := if w.2 ≠ 0 ∨ most < (w.1.length : Int) then -1 else (w.1.length : Int)
theorem c_lay {tx sy o r : Nat} {x hb : Nat → Nat} {q : Nat → Nat → Nat} {t : Int} (hl : (eX E).stackTraces = false) (h0 : jK E 6 h) (hSy : SyL E P h sy hb) (hT : TsL E P h tx x q) (p12 : P h 12 = some o) (ho : jK E 2 o) (hor : P o 0 = some r) (hra : jAr E 8 r 2000) (hqr : ∀ t, t < 12 → q t 0 ≠ r) (hI : ∀ t, t < 12 → I (x t) 8 ≠ 0 → TxG I (x t) (q t) ∧ TxI I (x t) (q t) ∧ ∀ i, i < (I (x t) 11).toNat → 0 ≤ I (q t 4) i ∧ I (q t 4) i ≤ 1000) (hd : 7 ≤ d) :
    jCx E yX6_lay cX6_lay 4 (some .int) d 1 [jp h, ji t] I P (jDc (exT I x t) (some (ji (if I h 11 = 0 then -1 else ouV (layW (tolV I (x t.toNat) (q t.toNat) hb) (I (q t.toNat 4)) (tNm I (q t.toNat)) (I (x t.toNat) 11).toNat 0 ([], 0)) 2000))) (if I h 11 = 0 then jput (outM I o r ([], 0)) h 13 (-1) else ouM I h o r (layW (tolV I (x t.toNat) (q t.toNat) hb) (I (q t.toNat 4)) (tNm I (q t.toNat)) (I (x t.toNat) 11).toNat 0 ([], 0)) 2000 t) P) (jXx (¬ exT I x t) jNSE I P) := by
  have hT0 := hT
  obtain ⟨p2, atx, hTs⟩ := hT
  have hho : h ≠ o := jne h0.2 ho.2 (by decide)
  have hhr : h ≠ r := jne h0.2 hra.2.1 (by decide)
  refine jCx_intro (by decide +kernel) (by simp [jc, va_rf, Value.category]) (Nat.le_of_ble_eq_true rfl) ?_
  refine jJ_aload_n (pc := 0) dX6_lay_0 rfl ?_
  refine jJ_iload_n (pc := 1) dX6_lay_1 rfl ?_
  refine jJ_callVx (pc := 2) (as := [_]) dX6_lay_2 mX6_124 (jRcv_of (by assumption) rfl rfl) (Nat.le_of_ble_eq_true rfl) (jRmx_ok (by omega) (by decide) (by decide) (by decide)) (c_existing (x := x) (d := d - 1) hl h0 p2 atx (fun t ht => ⟨(hTs t ht).1, (hTs t ht).2.1⟩) (by omega)) ⟨by decide, by decide⟩ ?_ ?_
  · rintro Ec I' P' ⟨hnx, rfl, rfl, rfl⟩
    exact ⟨hnx, rfl, rfl, rfl⟩
  · rintro rr I' P' ⟨hxx, rfl, rfl, rfl⟩
    have ht : t.toNat < 12 := by have := hxx.1; have := hxx.2.1; omega
    have hx5 := (hTs t.toNat ht).2
    obtain ⟨hG, hG2, hG3⟩ := hI t.toNat ht hxx.2.2
    have kt := hx5.1
    have xh : x t.toNat ≠ h := jne kt.2 h0.2 (by decide)
    have qh : ∀ j, j ≤ 7 → q t.toNat j ≠ h := fun j hj => by
      rcases hx5.kq j hj with z | z
      · exact jne z h0.2 (by decide)
      · exact jne z h0.2 (by decide)
    have hbh : ∀ k, k < 16 → hb k ≠ h := fun k hk => jne (hSy.2.2 k hk).2.2 h0.2 (by decide)
    refine jJ_astore_n (pc := 5) (ls' := [_, _, _, _]) dX6_lay_5 (Nat.le_of_ble_eq_true rfl) rfl ?_
    refine jJ_aload_n (pc := 6) dX6_lay_6 rfl ?_
    refine jJ_callVd (pc := 7) (as := []) dX6_lay_7 mX6_194 (jRcv_of (by assumption) rfl rfl) (Nat.le_of_ble_eq_true rfl) (jRmx_ok (by omega) (by decide) (by decide) (by decide)) (c_clearOut (r := r) (d := d - 1) h0 p12 ho (by omega)) ?_
    refine jJ_aload_n (pc := 10) dX6_lay_10 rfl ?_
    refine jJ_geti (pc := 11) dX6_lay_11 fX6_171 rfl (by assumption) ?_
    rw [jput_k _ (by decide), outM_x _ _ hho hhr]
    refine jJ_if_ne (pc := 14) (tgt := 19) dX6_lay_14 (by decide) (fun c14 => ?_) (fun c14 => ?_)
    · rw [if_neg c14, if_neg c14]
      rw [outM_putH hho hhr]
      have fx : ∀ a, a ≠ h → jput I' h 13 (-1) a = I' a := fun a ha => by funext k; exact jput_a _ ha
      have f1 : tolV (jput I' h 13 (-1)) (x t.toNat) (q t.toNat) hb = tolV I' (x t.toNat) (q t.toNat) hb ∨ True := Or.inr trivial
      refine jJ_iconst (pc := 19) dX6_lay_19 (by decide) ?_
      refine jJ_istore_n (pc := 20) (ls' := [_, _, _, _]) dX6_lay_20 (Nat.le_of_ble_eq_true rfl) rfl ?_
      have k := lay_loop (I := jput I' h 13 (-1)) (P := P') (E := E) (d := d) (h := h) (x := x t.toNat) (q := q t.toNat) (t := t) (n := (I' (x t.toNat) 11).toNat) (c0 := True) (X := jXx (¬ exT I' x t) jNSE I' P') (ZQ := jDc (exT I' x t) (some (ji (ouV (layW (tolV I' (x t.toNat) (q t.toNat) hb) (I' (q t.toNat 4)) (tNm I' (q t.toNat)) (I' (x t.toNat) 11).toNat 0 ([], 0)) 2000))) (ouM I' h o r (layW (tolV I' (x t.toNat) (q t.toNat) hb) (I' (q t.toNat 4)) (tNm I' (q t.toNat)) (I' (x t.toNat) 11).toNat 0 ([], 0)) 2000 t) P') h0 hSy p12 ho hor hra hx5 (hqr t.toNat ht) (by rw [fx _ xh]; have := hG.1; omega) (by unfold TxG; rw [fx _ xh, fx _ (qh 6 (by decide)), fx _ (qh 5 (by decide))]; exact hG) (by unfold TokR2; rw [fx _ (qh 1 (by decide)), fx _ (qh 2 (by decide))]; exact hG2.2) (by rw [fx _ (qh 4 (by decide))]; exact hG3) hd
      have e4 : jput I' h 13 (-1) (q t.toNat 4) = I' (q t.toNat 4) := fx _ (qh 4 (by decide))
      have en : tNm (jput I' h 13 (-1)) (q t.toNat) = tNm I' (q t.toNat) := by
        funext i
        unfold tNm
        rw [fx _ (qh 0 (by decide)), fx _ (qh 1 (by decide)), fx _ (qh 2 (by decide))]
      rw [e4, en] at k
      have el : ∀ (m i : Nat) (w : List Int × Int), i + m = (I' (x t.toNat) 11).toNat → layW (tolV (jput I' h 13 (-1)) (x t.toNat) (q t.toNat) hb) (I' (q t.toNat 4)) (tNm I' (q t.toNat)) m i w = layW (tolV I' (x t.toNat) (q t.toNat) hb) (I' (q t.toNat 4)) (tNm I' (q t.toNat)) m i w := by
        intro m i w hi
        refine layW_congr m i w (fun j hj => ?_)
        have hgn : j < gapsN (I' (x t.toNat) 11) := by unfold gapsN; split <;> omega
        exact tolV_fr (S := [h]) (I := I') (fun a ha => fx a (by simpa using ha)) (by simpa using xh) (by simpa using qh 4 (by decide)) (by simpa using qh 5 (by decide)) (by simpa using qh 6 (by decide)) (hG.2.1 j hgn) (fun k hk => by simpa using hbh k hk)
      refine k ?_ (I' (x t.toNat) 11).toNat 0 ([], 0) (by omega) (by simp) rfl
      intro w hw he
      rw [el _ 0 _ (by omega)] at he
      refine jJ_aload_n (pc := 83) dX6_lay_83 rfl ?_
      refine jJ_iload_n (pc := 84) dX6_lay_84 rfl ?_
      refine jJ_sipush (pc := 85) dX6_lay_85 (by decide) ?_
      refine jJ_callVd (pc := 88) (as := [_, _]) dX6_lay_88 mX6_213 (jRcv_of (by assumption) rfl rfl) (Nat.le_of_ble_eq_true rfl) (jRmx_ok (by omega) (by decide) (by decide) (by decide)) (c_endOut (r := r) (d := d - 1) h0 p12 ho (by omega)) ?_
      refine jJ_iretx (pc := 91) dX6_lay_91 rfl ⟨by decide, by decide⟩ ?_
      rw [← he]
      refine ⟨hxx, ?_, ?_, rfl⟩
      · rw [ouV]
      · rw [ouM]
    · refine jJ_iconst (pc := 17) dX6_lay_17 (by decide) ?_
      refine jJ_iretx (pc := 18) dX6_lay_18 rfl ⟨by decide, by decide⟩ ?_
      rw [if_pos c14, if_pos c14]
      exact ⟨hxx, rfl, rfl, rfl⟩
end JLay
