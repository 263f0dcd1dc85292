theorem sfl_v : Cond.fieldLink RJ0 9 "java/lang/String" "value" "[B" ∈ jT := jT_mem (tb_6 (List.mem_of_getElem? (i := 75) (by decide +kernel))) rfl
theorem sfl_c : Cond.fieldLink RJ0 15 "java/lang/String" "coder" "B" ∈ jT := jT_mem (tb_6 (List.mem_of_getElem? (i := 76) (by decide +kernel))) rfl
theorem sfl_k : Cond.fieldLink RJ0 38 "java/lang/String" "COMPACT_STRINGS" "Z" ∈ jT := jT_mem (tb_3 (List.mem_of_getElem? (i := 49) (by decide +kernel))) rfl
theorem sfl_f : Cond.fieldLink RJ0 1053 "jdk/internal/util/Preconditions" "SIOOBE_FORMATTER" "Ljava/util/function/BiFunction;" ∈ jT := jT_mem (tb_3 (List.mem_of_getElem? (i := 65) (by decide +kernel))) rfl
section JStr
/-- the j-th sign of the i-th text -/
def sCh (i j : Nat) : Int := ((jSB.getD i []).getD j 0).toInt
def sLn (i : Nat) : Nat := jSLen.getD i 0
theorem sCh_ok : ∀ i, i < 15 → ∀ j, j < sLn i → 0 ≤ sCh i j ∧ sCh i j ≤ 127 := by decide +kernel
theorem sLn_ok : ∀ i, i < 15 → sLn i ≤ 10 := by decide +kernel
variable {E : jE} {own : String} {cc : ByteArray} {nL : Nat} {rt : Option FieldType} {R : Room} {Z : Code → List Frame → Array Value → State → State → Prop} {cs ss pc : Nat} {ls : List (Option jV)} {st : List jV} {I : jI} {P : jP} {Q : Option jV → jI → jP → Prop} {d : Nat}
theorem jJ_sval {i : Nat} (hd : decode cc pc = .ok (.getfield 9, 3)) (ho : own = RJ0) (hi : i < 15) (kk : jJ E own cc nL rt R Z cs ss (pc + 3) ls (jp (eSv E i) :: st) I P) : jJ E own cc nL rt R Z cs ss pc ls (jp (eSk E i) :: st) I P := by
  intro p e s m args below meth c H locs la hc hH hS hl h1 h2
  subst ho
  exact vk_getf hc.1 hc.2.1 (hc.2.2.2.2.2.2.2.2.1.2.1.1.1 i hi).2.2.1 hS hc.2.2.2.2.1 (hc.2.2.2.2.2.1 _ sfl_v) (fun _ h => h) hd (kk p e s m args below meth c H locs la hc hH hS hl h1 ⟨trivial, h2.2⟩)
theorem jJ_scod {i : Nat} (hd : decode cc pc = .ok (.getfield 15, 3)) (ho : own = RJ0) (hi : i < 15) (kk : jJ E own cc nL rt R Z cs ss (pc + 3) ls (ji 0 :: st) I P) : jJ E own cc nL rt R Z cs ss pc ls (jp (eSk E i) :: st) I P := by
  intro p e s m args below meth c H locs la hc hH hS hl h1 h2
  subst ho
  exact vk_getf hc.1 hc.2.1 (hc.2.2.2.2.2.2.2.2.1.2.1.1.1 i hi).2.1 hS hc.2.2.2.2.1 (hc.2.2.2.2.2.1 _ sfl_c) (fun _ h => h) hd (kk p e s m args below meth c H locs la hc hH hS hl h1 ⟨jR0, h2.2⟩)
theorem jJ_scmp (hd : decode cc pc = .ok (.getstatic 38, 3)) (ho : own = RJ0) (kk : jJ E own cc nL rt R Z cs ss (pc + 3) ls (ji 1 :: st) I P) : jJ E own cc nL rt R Z cs ss pc ls st I P := by
  intro p e s m args below meth c H locs la hc hH hS hl h1 h2
  subst ho
  exact va_gets hc.1 hc.2.1 hc.2.2.2.2.2.2.2.2.1.2.2.1 hS hc.2.2.2.2.1 (hc.2.2.2.2.2.1 _ sfl_k) (fun _ h => h) hd (kk p e s m args below meth c H locs la hc hH hS hl h1 ⟨⟨by decide, by decide⟩, h2⟩)
theorem jJ_sfmt (hd : decode cc pc = .ok (.getstatic 1053, 3)) (ho : own = RJ0) (kk : ∀ r : Option Nat, jJ E own cc nL rt R Z cs ss (pc + 3) ls (jq r :: st) I P) : jJ E own cc nL rt R Z cs ss pc ls st I P := by
  intro p e s m args below meth c H locs la hc hH hS hl h1 h2
  subst ho
  rcases hc.2.2.2.2.2.2.2.2.1.2.2.2.2.2.1 with hz | ⟨t, hz⟩
  · exact va_gets hc.1 hc.2.1 hz hS hc.2.2.2.2.1 (hc.2.2.2.2.2.1 _ sfl_f) (fun _ h => h) hd (kk none p e s m args below meth c H locs la hc hH hS hl h1 ⟨trivial, h2⟩)
  · exact va_gets hc.1 hc.2.1 hz hS hc.2.2.2.2.1 (hc.2.2.2.2.2.1 _ sfl_f) (fun _ h => h) hd (kk (some t) p e s m args below meth c H locs la hc hH hS hl h1 ⟨trivial, h2⟩)
theorem jJ_slen {i : Nat} (hd : decode cc pc = .ok (.arraylength, 1)) (hi : i < 15) (kk : jJ E own cc nL rt R Z cs ss (pc + 1) ls (ji (sLn i : Int) :: st) I P) : jJ E own cc nL rt R Z cs ss pc ls (jp (eSv E i) :: st) I P := by
  intro p e s m args below meth c H locs la hc hH hS hl h1 h2
  have hn := sLn_ok i hi
  exact va_tlen hc.1 hc.2.1 (hc.2.2.2.2.2.2.2.2.1.2.1.1.1 i hi).2.2.2 hS (Int32.ofInt_eq_ofNat (n := jSLen.getD i 0)).symm hd (kk p e s m args below meth c H locs la hc hH hS hl h1 ⟨⟨by omega, by omega⟩, h2.2⟩)
theorem jJ_sbld {i j : Nat} (hd : decode cc pc = .ok (.baload, 1)) (hi : i < 15) (hj : j < sLn i) (kk : jJ E own cc nL rt R Z cs ss (pc + 1) ls (ji (sCh i j) :: st) I P) : jJ E own cc nL rt R Z cs ss pc ls (ji (j : Int) :: jp (eSv E i) :: st) I P := by
  intro p e s m args below meth c H locs la hc hH hS hl h1 h2
  have hn := sLn_ok i hi
  have hR : jR (j : Int) := ⟨by omega, by omega⟩
  exact va_tb hc.1 hc.2.1 (hc.2.2.2.2.2.2.2.2.1.2.1.1.1 i hi).2.2.2 hS (jin hR (by omega) (by show (j : Int) < ((sLn i : Nat) : Int); omega)) (v := jc (ji (sCh i j))) (by
    rw [j32_clamp hR (by omega), Int.toNat_natCast]
    exact congrArg Value.int (Int32.ofInt_toInt _).symm) hd (kk p e s m args below meth c H locs la hc hH hS hl h1 ⟨jR32 _, h2.2.2⟩)
theorem jJ_i2c {x : Int} (hd : decode cc pc = .ok (.i2c, 1)) (hx : 0 ≤ x ∧ x ≤ 65535) (kk : jJ E own cc nL rt R Z cs ss (pc + 1) ls (ji x :: st) I P) : jJ E own cc nL rt R Z cs ss pc ls (ji x :: st) I P := by
  intro p e s m args below meth c H locs la hc hH hS hl h1 h2
  refine lv_i2c hc.1 hc.2.1 hd ?_ (kk p e s m args below meth c H locs la hc hH hS hl h1 h2)
  obtain ⟨n, rfl⟩ : ∃ n : Nat, x = (n : Int) := ⟨x.toNat, by omega⟩
  have h := pk_charN (q := n) (by omega)
  rw [Int32.ofInt_eq_ofNat, pk_char]
  show nI _ = nI n
  rw [show (Int32.ofNat n).toBitVec.toNat = n from pk_tn (n := n) (by omega), Nat.mod_eq_of_lt (by omega)]
theorem jJ_cret {x : Int} (hd : decode cc pc = .ok (.ireturn, 1)) (hrt : rt = some .char) (hx : 0 ≤ x ∧ x ≤ 65535) (hq : Q (some (ji x)) I P) : jJ E own cc nL rt R (jZ E Q) 0 0 pc ls [ji x] I P := by
  intro p e s m args below meth c H locs la hc hH hS hl h1 h2
  refine W.zret (ty := .char) hc.1 hc.2.1 (hc.2.2.1.trans hrt) ?_ (fun t ht hW => ⟨⟨some (ji x), I, P, rfl, fun v hv => by cases hv; exact h2.1, hq, jWld_of hc.2.2.2.2.2.2.2.2.2 hH hS hc.2.2.2.2.2.2.2.1 hc.2.2.2.2.2.2.2.2.1 hW ht⟩, hS.F ht⟩) hS.2.2 hd hc.2.2.2.2.2.2.1
  obtain ⟨n, rfl⟩ : ∃ n : Nat, x = (n : Int) := ⟨x.toNat, by omega⟩
  rw [Int32.ofInt_eq_ofNat]
  exact (pk_charN (q := n) (by omega)).1
theorem jJ_bret0 (hd : decode cc pc = .ok (.ireturn, 1)) (hrt : rt = some .byte) (hq : Q (some (ji 0)) I P) : jJ E own cc nL rt R (jZ E Q) 0 0 pc ls [ji 0] I P := by
  intro p e s m args below meth c H locs la hc hH hS hl h1 h2
  exact W.zret (ty := .byte) hc.1 hc.2.1 (hc.2.2.1.trans hrt) (by decide +kernel) (fun t ht hW => ⟨⟨some (ji 0), I, P, rfl, fun v hv => by cases hv; exact h2.1, hq, jWld_of hc.2.2.2.2.2.2.2.2.2 hH hS hc.2.2.2.2.2.2.2.1 hc.2.2.2.2.2.2.2.2.1 hW ht⟩, hS.F ht⟩) hS.2.2 hd hc.2.2.2.2.2.2.1
theorem jJ_ldcSw {idx i : Nat} (hd : decode cc pc = .ok (.ldc_w idx, 3)) (hn : (own, idx, i) ∈ jSR) (k : jJ E own cc nL rt R Z cs ss (pc + 3) ls (jp (eSk E i) :: st) I P) : jJ E own cc nL rt R Z cs ss pc ls st I P := by
  intro p e s m args below meth c H locs la hc hH hS hl h1 h2
  have hZ := hc.2.2.2.2.2.2.2.2.1.2.1.2 _ hn
  have kk := k p e s m args below meth c H locs la hc hH hS hl h1 ⟨trivial, h2⟩
  intro T hT X
  obtain ⟨t, a1, b1⟩ := kk T hT X
  obtain ⟨k', cf, i', a', hk, hcf, hcp, -, hr, hev'⟩ := Cond.stringRef_spec hc.2.2.2.2.1 hZ.1
  cases hZ.2.symm.trans hev'
  obtain ⟨k2, hk2, he⟩ := X.warmed.alike.2.2 _ _ hk
  have hr' : k2.resolved[idx]? = some (some (.string (eSk E i))) := by
    rcases X.warmed.entry hk hk2 idx with h | ⟨h, -⟩
    · rw [h]; exact hr
    · rw [hr] at h; cases h
  have hdg : decode c.code pc = .ok (.ldc_w idx, 3) := by rw [hc.2.1]; exact hd
  refine ⟨t, ?_, b1⟩
  have hexec := hc.1
  jvm_step X.here [hexec, hdg, ldc_w.wp_string (e := e) (s := T) (f := F0 m pc la (st.map jc)) X.here.top hk2 (by rw [he]; exact hcf) hcp hr']
  exact a1
theorem jShr0 {x : Int} (h : jR x) : jShr x 0 = x := by
  unfold jShr
  rw [show (Int32.ofInt 0 &&& 31) = 0 by decide]
  rw [show Int32.ofInt x >>> (0 : Int32) = Int32.ofInt x by simp]
  exact j32 h
theorem jAnd255 {x : Int} (h : 0 ≤ x ∧ x ≤ 255) : jAnd x 255 = x := by
  obtain ⟨n, rfl⟩ : ∃ n : Nat, x = (n : Int) := ⟨x.toNat, by omega⟩
  unfold jAnd
  rw [Int32.ofInt_eq_ofNat]
  have e := pk_andN (n := n) (by omega) (m := Int32.ofInt 255) 8 (by decide)
  rw [show Int32.ofNat n &&& Int32.ofInt 255 = nI (n % 2 ^ 8) from e, Nat.mod_eq_of_lt (by omega)]
  exact nI_toInt (by omega)
theorem c_coder {i : Nat} (hi : i < 15) : jC E yJ0_coder_7d493 cJ0_coder_7d493 1 (some .byte) d [jp (eSk E i)] I P (jD (some (ji 0)) I P) := by
  refine jC_intro (by decide +kernel) (by simp [jc, va_rf, Value.category]) (Nat.le_of_ble_eq_true rfl) ?_
  refine jJ_scmp (pc := 0) dJ0_coder_7d493_0 rfl ?_
  refine jJ_if_eq (pc := 3) (tgt := 13) dJ0_coder_7d493_3 (by decide) (fun c3 => ?_) (fun c3 => ?_)
  · exact absurd c3 (by decide)
  · refine jJ_aload_n (pc := 6) dJ0_coder_7d493_6 rfl ?_
    refine jJ_scod (pc := 7) dJ0_coder_7d493_7 rfl hi ?_
    refine jJ_goto (pc := 10) (tgt := 14) dJ0_coder_7d493_10 (by decide) ?_
    exact jJ_bret0 (pc := 14) dJ0_coder_7d493_14 rfl ⟨rfl, rfl, rfl⟩
theorem c_len {i : Nat} (hi : i < 15) (hd : 1 ≤ d) : jC E yJ0_length_8abf5 cJ0_length_8abf5 1 (some .int) d [jp (eSk E i)] I P (jD (some (ji (sLn i : Int))) I P) := by
  have hn := sLn_ok i hi
  refine jC_intro (by decide +kernel) (by simp [jc, va_rf, Value.category]) (Nat.le_of_ble_eq_true rfl) ?_
  refine jJ_aload_n (pc := 0) dJ0_length_8abf5_0 rfl ?_
  refine jJ_sval (pc := 1) dJ0_length_8abf5_1 rfl hi ?_
  refine jJ_slen (pc := 4) dJ0_length_8abf5_4 hi ?_
  refine jJ_aload_n (pc := 5) dJ0_length_8abf5_5 rfl ?_
  refine jJ_callVd (pc := 6) (as := []) dJ0_length_8abf5_6 mJ0_335 (Or.inr ⟨rfl, i, hi, rfl⟩) (Nat.le_of_ble_eq_true rfl) (jRm_ok (by omega) (by decide)) (c_coder (d := d - 1) hi) ?_
  refine jJ_ishr (pc := 9) dJ0_length_8abf5_9 ?_
  rw [jShr0 ⟨by omega, by omega⟩]
  refine jJ_iret (pc := 10) dJ0_length_8abf5_10 rfl ?_
  exact ⟨rfl, rfl, rfl⟩
theorem c_isLatin1 {i : Nat} (hi : i < 15) : jC E yJ0_isLatin1_aae02 cJ0_isLatin1_aae02 1 (some .boolean) d [jp (eSk E i)] I P (jD (some (ji 1)) I P) := by
  refine jC_intro (by decide +kernel) (by simp [jc, va_rf, Value.category]) (Nat.le_of_ble_eq_true rfl) ?_
  refine jJ_scmp (pc := 0) dJ0_isLatin1_aae02_0 rfl ?_
  refine jJ_if_eq (pc := 3) (tgt := 17) dJ0_isLatin1_aae02_3 (by decide) (fun c3 => ?_) (fun c3 => ?_)
  · exact absurd c3 (by decide)
  · refine jJ_aload_n (pc := 6) dJ0_isLatin1_aae02_6 rfl ?_
    refine jJ_scod (pc := 7) dJ0_isLatin1_aae02_7 rfl hi ?_
    refine jJ_if_ne (pc := 10) (tgt := 17) dJ0_isLatin1_aae02_10 (by decide) (fun c10 => ?_) (fun c10 => ?_)
    · exact absurd rfl c10
    · refine jJ_iconst (pc := 13) dJ0_isLatin1_aae02_13 (by decide) ?_
      refine jJ_goto (pc := 14) (tgt := 18) dJ0_isLatin1_aae02_14 (by decide) ?_
      refine jJ_zret (pc := 18) dJ0_isLatin1_aae02_18 rfl (by decide) ?_
      exact ⟨rfl, rfl, rfl⟩
theorem c_checkIndex3 {a n : Int} {r : Option Nat} (h : 0 ≤ a ∧ a < n) : jC E yJ3_checkIndex_8e157 cJ3_checkIndex_8e157 3 (some .int) d [ji a, ji n, jq r] I P (jD (some (ji a)) I P) := by
  refine jC_intro (by decide +kernel) (by cases r <;> simp [jc, va_rf, Value.category]) (Nat.le_of_ble_eq_true rfl) ?_
  refine jJ_iload_n (pc := 0) dJ3_checkIndex_8e157_0 rfl ?_
  refine jJ_if_lt (pc := 1) (tgt := 9) dJ3_checkIndex_8e157_1 (by decide) (fun c1 => ?_) (fun c1 => ?_)
  · exfalso
    omega
  · refine jJ_iload_n (pc := 4) dJ3_checkIndex_8e157_4 rfl ?_
    refine jJ_iload_n (pc := 5) dJ3_checkIndex_8e157_5 rfl ?_
    refine jJ_icmp_lt (pc := 6) (tgt := 16) dJ3_checkIndex_8e157_6 (by decide) (fun c6 => ?_) (fun c6 => ?_)
    · refine jJ_iload_n (pc := 16) dJ3_checkIndex_8e157_16 rfl ?_
      refine jJ_iret (pc := 17) dJ3_checkIndex_8e157_17 rfl ?_
      exact ⟨rfl, rfl, rfl⟩
    · exfalso
      omega
theorem c_checkIndex {a n : Int} (h : 0 ≤ a ∧ a < n) (hd : 1 ≤ d) : jC E yJ0_checkIndex_df160 cJ0_checkIndex_df160 2 none d [ji a, ji n] I P (jD none I P) := by
  refine jC_intro (by decide +kernel) (by simp [jc, va_rf, Value.category]) (Nat.le_of_ble_eq_true rfl) ?_
  refine jJ_iload_n (pc := 0) dJ0_checkIndex_df160_0 rfl ?_
  refine jJ_iload_n (pc := 1) dJ0_checkIndex_df160_1 rfl ?_
  refine jJ_sfmt (pc := 2) dJ0_checkIndex_df160_2 rfl (fun r => ?_)
  refine jJ_callSd (pc := 5) (as := [_, _, _]) dJ0_checkIndex_df160_5 mJ0_1059 (Nat.le_of_ble_eq_true rfl) (jRm_ok (by omega) (by decide)) (c_checkIndex3 (d := d - 1) h) ?_
  refine jJ_pop (pc := 8) dJ0_checkIndex_df160_8 rfl ?_
  refine jJ_vret (pc := 9) dJ0_checkIndex_df160_9 rfl ?_
  exact ⟨rfl, rfl, rfl⟩
theorem c_charAtL {i j : Nat} (hi : i < 15) (hj : j < sLn i) (hd : 2 ≤ d) : jC E yJ1_charAt_3b067 cJ1_charAt_3b067 2 (some .char) d [jp (eSv E i), ji (j : Int)] I P (jD (some (ji (sCh i j))) I P) := by
  have hc := sCh_ok i hi j hj
  refine jC_intro (by decide +kernel) (by simp [jc, va_rf, Value.category]) (Nat.le_of_ble_eq_true rfl) ?_
  refine jJ_iload_n (pc := 0) dJ1_charAt_3b067_0 rfl ?_
  refine jJ_aload_n (pc := 1) dJ1_charAt_3b067_1 rfl ?_
  refine jJ_slen (pc := 2) dJ1_charAt_3b067_2 hi ?_
  refine jJ_callSd (pc := 3) (as := [_, _]) dJ1_charAt_3b067_3 mJ1_9 (Nat.le_of_ble_eq_true rfl) (jRm_ok (by omega) (by decide)) (c_checkIndex (d := d - 1) ⟨by omega, by omega⟩ (by omega)) ?_
  refine jJ_aload_n (pc := 6) dJ1_charAt_3b067_6 rfl ?_
  refine jJ_iload_n (pc := 7) dJ1_charAt_3b067_7 rfl ?_
  refine jJ_sbld (pc := 8) dJ1_charAt_3b067_8 hi hj ?_
  refine jJ_sipush (pc := 9) dJ1_charAt_3b067_9 (by decide) ?_
  refine jJ_iand (pc := 12) dJ1_charAt_3b067_12 ?_
  rw [jAnd255 ⟨by omega, by omega⟩]
  refine jJ_i2c (pc := 13) dJ1_charAt_3b067_13 ⟨by omega, by omega⟩ ?_
  exact jJ_cret (pc := 14) dJ1_charAt_3b067_14 rfl ⟨by omega, by omega⟩ ⟨rfl, rfl, rfl⟩
theorem c_charAt {i j : Nat} (hi : i < 15) (hj : j < sLn i) (hd : 3 ≤ d) : jC E yJ0_charAt_5068e cJ0_charAt_5068e 2 (some .char) d [jp (eSk E i), ji (j : Int)] I P (jD (some (ji (sCh i j))) I P) := by
  have hc := sCh_ok i hi j hj
  refine jC_intro (by decide +kernel) (by simp [jc, va_rf, Value.category]) (Nat.le_of_ble_eq_true rfl) ?_
  refine jJ_aload_n (pc := 0) dJ0_charAt_5068e_0 rfl ?_
  refine jJ_callVd (pc := 1) (as := []) dJ0_charAt_5068e_1 mJ0_492 (Or.inr ⟨rfl, i, hi, rfl⟩) (Nat.le_of_ble_eq_true rfl) (jRm_ok (by omega) (by decide)) (c_isLatin1 (d := d - 1) hi) ?_
  refine jJ_if_eq (pc := 4) (tgt := 16) dJ0_charAt_5068e_4 (by decide) (fun c4 => ?_) (fun c4 => ?_)
  · exact absurd c4 (by decide)
  · refine jJ_aload_n (pc := 7) dJ0_charAt_5068e_7 rfl ?_
    refine jJ_sval (pc := 8) dJ0_charAt_5068e_8 rfl hi ?_
    refine jJ_iload_n (pc := 11) dJ0_charAt_5068e_11 rfl ?_
    refine jJ_callSd (pc := 12) (as := [_, _]) dJ0_charAt_5068e_12 mJ0_495 (Nat.le_of_ble_eq_true rfl) (jRm_ok (by omega) (by decide)) (c_charAtL (d := d - 1) hi hj (by omega)) ?_
    exact jJ_cret (pc := 15) dJ0_charAt_5068e_15 rfl ⟨by omega, by omega⟩ ⟨rfl, rfl, rfl⟩
/-- where a sign stands first among k of a row's, or -1 -/
def iOf (f : Nat → Int) (b : Int) : Nat → Nat → Int
  | _, 0 => -1
  | i, k + 1 => if f i = b then (i : Int) else iOf f b (i + 1) k
theorem canEnc {b : Int} : jC E yJ1_canEncode_9a6ad cJ1_canEncode_9a6ad 1 (some .boolean) d [ji b] I P (jD (some (ji (jb (0 ≤ b ∧ b ≤ 255)))) I P) := by
  refine jC_intro (by decide +kernel) (by simp [jc, va_rf, Value.category]) (Nat.le_of_ble_eq_true rfl) ?_
  refine jJ_iload_n (pc := 0) dJ1_canEncode_9a6ad_0 rfl ?_
  refine jJ_if_lt (pc := 1) (tgt := 15) dJ1_canEncode_9a6ad_1 (by decide) (fun c1 => ?_) (fun c1 => ?_)
  · refine jJ_iconst (pc := 15) dJ1_canEncode_9a6ad_15 (by decide) ?_
    refine jJ_zret (pc := 16) dJ1_canEncode_9a6ad_16 rfl (by decide) ?_
    exact ⟨by first | rw [← jb_t (by omega)] | rw [← jb_f (by omega)], rfl, rfl⟩
  · refine jJ_iload_n (pc := 4) dJ1_canEncode_9a6ad_4 rfl ?_
    refine jJ_sipush (pc := 5) dJ1_canEncode_9a6ad_5 (by decide) ?_
    refine jJ_icmp_gt (pc := 8) (tgt := 15) dJ1_canEncode_9a6ad_8 (by decide) (fun c8 => ?_) (fun c8 => ?_)
    · refine jJ_iconst (pc := 15) dJ1_canEncode_9a6ad_15 (by decide) ?_
      refine jJ_zret (pc := 16) dJ1_canEncode_9a6ad_16 rfl (by decide) ?_
      exact ⟨by first | rw [← jb_t (by omega)] | rw [← jb_f (by omega)], rfl, rfl⟩
    · refine jJ_iconst (pc := 11) dJ1_canEncode_9a6ad_11 (by decide) ?_
      refine jJ_goto (pc := 12) (tgt := 16) dJ1_canEncode_9a6ad_12 (by decide) ?_
      refine jJ_zret (pc := 16) dJ1_canEncode_9a6ad_16 rfl (by decide) ?_
      exact ⟨by first | rw [← jb_t (by omega)] | rw [← jb_f (by omega)], rfl, rfl⟩
theorem idxC_loop {i : Nat} {b v : Int} (hi : i < 15) : ∀ (k j : Nat), j + k = sLn i → jJ E yJ1_indexOfChar_4cfef.cls cJ1_indexOfChar_4cfef 6 (some .int) (jRm d) (jZ E (jD (some (ji (iOf (sCh i) b j k))) I P)) 0 0 7 [some (jp (eSv E i)), some (ji v), some (ji 0), some (ji (sLn i : Int)), some (ji b), some (ji (j : Int))] [] I P := by
  have hn := sLn_ok i hi
  intro k
  induction k with
  | zero =>
    intro j hk
    refine jJ_iload (pc := 7) dJ1_indexOfChar_4cfef_7 rfl ?_
    refine jJ_iload_n (pc := 9) dJ1_indexOfChar_4cfef_9 rfl ?_
    refine jJ_icmp_ge (pc := 10) (tgt := 31) dJ1_indexOfChar_4cfef_10 (by decide) (fun c10 => ?_) (fun c10 => ?_)
    · refine jJ_iconst (pc := 31) dJ1_indexOfChar_4cfef_31 (by decide) ?_
      refine jJ_iret (pc := 32) dJ1_indexOfChar_4cfef_32 rfl ?_
      exact ⟨rfl, rfl, rfl⟩
    · exfalso
      omega
  | succ k ih =>
    intro j hk
    refine jJ_iload (pc := 7) dJ1_indexOfChar_4cfef_7 rfl ?_
    refine jJ_iload_n (pc := 9) dJ1_indexOfChar_4cfef_9 rfl ?_
    refine jJ_icmp_ge (pc := 10) (tgt := 31) dJ1_indexOfChar_4cfef_10 (by decide) (fun c10 => ?_) (fun c10 => ?_)
    · exfalso
      omega
    · refine jJ_aload_n (pc := 13) dJ1_indexOfChar_4cfef_13 rfl ?_
      refine jJ_iload (pc := 14) dJ1_indexOfChar_4cfef_14 rfl ?_
      refine jJ_sbld (pc := 16) dJ1_indexOfChar_4cfef_16 hi (by omega) ?_
      refine jJ_iload (pc := 17) dJ1_indexOfChar_4cfef_17 rfl ?_
      refine jJ_icmp_ne (pc := 19) (tgt := 25) dJ1_indexOfChar_4cfef_19 (by decide) (fun c19 => ?_) (fun c19 => ?_)
      · refine jJ_iinc (pc := 25) (ls' := [_, _, _, _, _, _]) dJ1_indexOfChar_4cfef_25 rfl ⟨by omega, by omega⟩ rfl ?_
        refine jJ_goto (pc := 28) (tgt := 7) dJ1_indexOfChar_4cfef_28 (by decide) ?_
        rw [iOf, if_neg c19]
        exact ih (j + 1) (by omega)
      · refine jJ_iload (pc := 22) dJ1_indexOfChar_4cfef_22 rfl ?_
        refine jJ_iret (pc := 24) dJ1_indexOfChar_4cfef_24 rfl ?_
        exact ⟨by rw [iOf, if_pos c19], rfl, rfl⟩
theorem c_indexOfChar {i : Nat} {b : Int} (hi : i < 15) : jC E yJ1_indexOfChar_4cfef cJ1_indexOfChar_4cfef 6 (some .int) d [jp (eSv E i), ji b, ji 0, ji (sLn i : Int)] I P (jD (some (ji (iOf (sCh i) (jB b) 0 (sLn i)))) I P) := by
  refine jC_intro (by decide +kernel) (by simp [jc, va_rf, Value.category]) (Nat.le_of_ble_eq_true rfl) ?_
  refine jJ_iload_n (pc := 0) dJ1_indexOfChar_4cfef_0 rfl ?_
  refine jJ_i2b (pc := 1) dJ1_indexOfChar_4cfef_1 ?_
  refine jJ_istore (pc := 2) (ls' := [_, _, _, _, _, _]) dJ1_indexOfChar_4cfef_2 (Nat.le_of_ble_eq_true rfl) rfl ?_
  refine jJ_iload_n (pc := 4) dJ1_indexOfChar_4cfef_4 rfl ?_
  refine jJ_istore (pc := 5) (ls' := [_, _, _, _, _, _]) dJ1_indexOfChar_4cfef_5 (Nat.le_of_ble_eq_true rfl) rfl ?_
  exact idxC_loop hi (sLn i) 0 (by omega)
theorem c_indexOfL {i : Nat} {b : Int} (hi : i < 15) (hb : 0 ≤ b ∧ b ≤ 255) (hl : 0 < sLn i) (hd : 1 ≤ d) : jC E yJ1_indexOf_4cfef cJ1_indexOf_4cfef 4 (some .int) d [jp (eSv E i), ji b, ji 0, ji (sLn i : Int)] I P (jD (some (ji (iOf (sCh i) (jB b) 0 (sLn i)))) I P) := by
  have hn := sLn_ok i hi
  refine jC_intro (by decide +kernel) (by simp [jc, va_rf, Value.category]) (Nat.le_of_ble_eq_true rfl) ?_
  refine jJ_iload_n (pc := 0) dJ1_indexOf_4cfef_0 rfl ?_
  refine jJ_callSd (pc := 1) (as := [_]) dJ1_indexOf_4cfef_1 mJ1_88 (Nat.le_of_ble_eq_true rfl) (jRm_ok (by omega) (by decide)) (canEnc (d := d - 1)) ?_
  rw [← jb_t hb]
  refine jJ_if_ne (pc := 4) (tgt := 9) dJ1_indexOf_4cfef_4 (by decide) (fun c4 => ?_) (fun c4 => ?_)
  · refine jJ_iload_n (pc := 9) dJ1_indexOf_4cfef_9 rfl ?_
    refine jJ_iconst (pc := 10) dJ1_indexOf_4cfef_10 (by decide) ?_
    refine jJ_max (pc := 11) dJ1_indexOf_4cfef_11 mJ1_92 nJ1_92 (Nat.le_of_ble_eq_true rfl) (jRm_1 hd) ?_
    refine jJ_istore_n (pc := 14) (ls' := [_, _, _, _]) dJ1_indexOf_4cfef_14 (Nat.le_of_ble_eq_true rfl) rfl ?_
    refine jJ_iload_n (pc := 15) dJ1_indexOf_4cfef_15 rfl ?_
    refine jJ_aload_n (pc := 16) dJ1_indexOf_4cfef_16 rfl ?_
    refine jJ_slen (pc := 17) dJ1_indexOf_4cfef_17 hi ?_
    refine jJ_min (pc := 18) dJ1_indexOf_4cfef_18 mJ1_38 nJ1_38 (Nat.le_of_ble_eq_true rfl) (jRm_1 hd) ?_
    rw [show min (sLn i : Int) (sLn i : Int) = (sLn i : Int) by omega, show max (0 : Int) 0 = 0 by decide]
    refine jJ_istore_n (pc := 21) (ls' := [_, _, _, _]) dJ1_indexOf_4cfef_21 (Nat.le_of_ble_eq_true rfl) rfl ?_
    refine jJ_iload_n (pc := 22) dJ1_indexOf_4cfef_22 rfl ?_
    refine jJ_iload_n (pc := 23) dJ1_indexOf_4cfef_23 rfl ?_
    refine jJ_icmp_lt (pc := 24) (tgt := 29) dJ1_indexOf_4cfef_24 (by decide) (fun c24 => ?_) (fun c24 => ?_)
    · refine jJ_aload_n (pc := 29) dJ1_indexOf_4cfef_29 rfl ?_
      refine jJ_iload_n (pc := 30) dJ1_indexOf_4cfef_30 rfl ?_
      refine jJ_iload_n (pc := 31) dJ1_indexOf_4cfef_31 rfl ?_
      refine jJ_iload_n (pc := 32) dJ1_indexOf_4cfef_32 rfl ?_
      refine jJ_callSd (pc := 33) (as := [_, _, _, _]) dJ1_indexOf_4cfef_33 mJ1_95 (Nat.le_of_ble_eq_true rfl) (jRm_ok (by omega) (by decide)) (c_indexOfChar (d := d - 1) hi) ?_
      refine jJ_iret (pc := 36) dJ1_indexOf_4cfef_36 rfl ?_
      exact ⟨rfl, rfl, rfl⟩
    · exfalso
      omega
  · exact absurd c4 (by decide)
theorem c_indexOf2 {i : Nat} {b : Int} (hi : i < 15) (hb : 0 ≤ b ∧ b ≤ 255) (hl : 0 < sLn i) (hd : 2 ≤ d) : jC E yJ0_indexOf_7cf53 cJ0_indexOf_7cf53 3 (some .int) d [jp (eSk E i), ji b, ji 0] I P (jD (some (ji (iOf (sCh i) (jB b) 0 (sLn i)))) I P) := by
  refine jC_intro (by decide +kernel) (by simp [jc, va_rf, Value.category]) (Nat.le_of_ble_eq_true rfl) ?_
  refine jJ_aload_n (pc := 0) dJ0_indexOf_7cf53_0 rfl ?_
  refine jJ_callVd (pc := 1) (as := []) dJ0_indexOf_7cf53_1 mJ0_492 (Or.inr ⟨rfl, i, hi, rfl⟩) (Nat.le_of_ble_eq_true rfl) (jRm_ok (by omega) (by decide)) (c_isLatin1 (d := d - 1) hi) ?_
  refine jJ_if_eq (pc := 4) (tgt := 23) dJ0_indexOf_7cf53_4 (by decide) (fun c4 => ?_) (fun c4 => ?_)
  · exact absurd c4 (by decide)
  · refine jJ_aload_n (pc := 7) dJ0_indexOf_7cf53_7 rfl ?_
    refine jJ_sval (pc := 8) dJ0_indexOf_7cf53_8 rfl hi ?_
    refine jJ_iload_n (pc := 11) dJ0_indexOf_7cf53_11 rfl ?_
    refine jJ_iload_n (pc := 12) dJ0_indexOf_7cf53_12 rfl ?_
    refine jJ_aload_n (pc := 13) dJ0_indexOf_7cf53_13 rfl ?_
    refine jJ_callVd (pc := 14) (as := []) dJ0_indexOf_7cf53_14 mJ0_505 (Or.inr ⟨rfl, i, hi, rfl⟩) (Nat.le_of_ble_eq_true rfl) (jRm_ok (by omega) (by decide)) (c_len (d := d - 1) hi (by omega)) ?_
    refine jJ_callSd (pc := 17) (as := [_, _, _, _]) dJ0_indexOf_7cf53_17 mJ0_637 (Nat.le_of_ble_eq_true rfl) (jRm_ok (by omega) (by decide)) (c_indexOfL (d := d - 1) hi hb hl (by omega)) ?_
    refine jJ_goto (pc := 20) (tgt := 36) dJ0_indexOf_7cf53_20 (by decide) ?_
    refine jJ_iret (pc := 36) dJ0_indexOf_7cf53_36 rfl ?_
    exact ⟨rfl, rfl, rfl⟩
theorem c_indexOf {i : Nat} {b : Int} (hi : i < 15) (hb : 0 ≤ b ∧ b ≤ 255) (hl : 0 < sLn i) (hd : 3 ≤ d) : jC E yJ0_indexOf_0f7a4 cJ0_indexOf_0f7a4 2 (some .int) d [jp (eSk E i), ji b] I P (jD (some (ji (iOf (sCh i) (jB b) 0 (sLn i)))) I P) := by
  refine jC_intro (by decide +kernel) (by simp [jc, va_rf, Value.category]) (Nat.le_of_ble_eq_true rfl) ?_
  refine jJ_aload_n (pc := 0) dJ0_indexOf_0f7a4_0 rfl ?_
  refine jJ_iload_n (pc := 1) dJ0_indexOf_0f7a4_1 rfl ?_
  refine jJ_iconst (pc := 2) dJ0_indexOf_0f7a4_2 (by decide) ?_
  refine jJ_callVd (pc := 3) (as := [_, _]) dJ0_indexOf_0f7a4_3 mJ0_633 (Or.inr ⟨rfl, i, hi, rfl⟩) (Nat.le_of_ble_eq_true rfl) (jRm_ok (by omega) (by decide)) (c_indexOf2 (d := d - 1) hi hb hl (by omega)) ?_
  refine jJ_iret (pc := 6) dJ0_indexOf_0f7a4_6 rfl ?_
  exact ⟨rfl, rfl, rfl⟩
end JStr
