section JRV
variable {E : jE} {I : jI} {P : jP} {d m t i : Nat} {a : Nat → Nat} {x : TX}
/-- the k TOKENS from i on, turned: how far the bytes are copied, and OUT -/
def uW (x : TX) (mk : Int) : Nat → Nat → Nat → List Int → Nat × List Int
  | 0, _, dn, l => (dn, l)
  | k + 1, i, dn, l => if xSg x i = 1 then uW x mk k (i + 1) (xEn x i).toNat (l ++ rowF (xF x) dn ((xSt x i).toNat - dn) ++ (made mk (xNm x i)).1) else uW x mk k (i + 1) dn l
def uL (x : TX) (mk : Int) : List Int := (uW x mk (xT x).length 0 0 []).2 ++ rowF (xF x) (uW x mk (xT x).length 0 0 []).1 (xN x - (uW x mk (xT x).length 0 0 []).1)
/-- a TEXT turned to a make -/
def tuX (x : TX) (mk : Int) : Option (List Int) := if okAll x mk (xT x).length 0 = true ∧ (uL x mk).length ≤ 800 then some (uL x mk) else none
theorem WX.mono (h : WX x) : ∀ (j i : Nat), i < j → j < (xT x).length → xEn x i ≤ xSt x j
  | 0, i, h1, h2 => absurd h1 (by omega)
  | j + 1, i, h1, h2 => by
    have h3 := (h.or h2).1
    by_cases q : i = j
    · rw [q]; exact h3
    · have h4 := h.mono j i (by omega) (by omega)
      have := (h.tk (i := j) (by omega)).1
      omega
theorem uW_len (hW : WX x) {mk : Int} : ∀ (k i dn : Nat) (l : List Int), i + k = (xT x).length → dn ≤ xN x → (∀ j, i ≤ j → j < (xT x).length → (dn : Int) ≤ xSt x j) → (uW x mk k i dn l).1 ≤ xN x ∧ ((uW x mk k i dn l).2.length : Int) + ((xN x : Int) - ((uW x mk k i dn l).1 : Int)) = (l.length : Int) + ((xN x : Int) - (dn : Int)) + dltX x mk k i
  | 0, i, dn, l, _, h1, _ => ⟨h1, by simp [uW, dltX]⟩
  | k + 1, i, dn, l, hi, h1, h2 => by
    have tk := (hW.tk (i := i) (by omega)).1
    have hs := h2 i (by omega) (by omega)
    have nl := xNm_len x i
    simp only [uW, dltX]
    by_cases q : xSg x i = 1
    · rw [if_pos q, if_pos q]
      have ih := uW_len hW (mk := mk) k (i + 1) (xEn x i).toNat (l ++ rowF (xF x) dn ((xSt x i).toNat - dn) ++ (made mk (xNm x i)).1) (by omega) (by omega) (fun j h3 h4 => by have := hW.mono j i (by omega) h4; omega)
      refine ⟨ih.1, ?_⟩
      rw [ih.2]
      simp only [List.length_append, rowF_len]
      omega
    · rw [if_neg q, if_neg q, Int.zero_add]
      exact uW_len hW (mk := mk) k (i + 1) dn l (by omega) h1 (fun j h3 h4 => h2 j (by omega) h4)
theorem uL_len (hW : WX x) {mk : Int} : ((uL x mk).length : Int) = (xN x : Int) + dltX x mk (xT x).length 0 := by
  have h := uW_len hW (mk := mk) (xT x).length 0 0 [] (by omega) (by omega) (fun j _ h => by have := (hW.tk h).1; omega)
  unfold uL
  rw [List.length_append, rowF_len]
  have h2 := h.2
  simp only [List.length_nil] at h2
  omega
theorem mdM_otM {w : List Int × Int} {l : List Int} (hR : RfL E P m a) : mdM (otM I m a l) m a w = otM (mdM I m a w) m a l := by
  have n19 := hR.n19
  have n32 := hR.n32
  have x1 : a 19 ≠ a 32 := hR.d (by decide) (by decide) (by decide)
  funext b k
  simp only [mdM, otM]
  by_cases hb : b = m
  · subst hb
    by_cases h1 : k = 34
    · subst h1; simp [Ne.symm n19]
    · by_cases h2 : k = 35
      · subst h2; simp [Ne.symm n19]
      · by_cases h3 : k = 20
        · subst h3; simp [Ne.symm n32]
        · simp [h1, h2, h3, Ne.symm n19, Ne.symm n32]
  · simp only [hb, false_and, if_false]
    by_cases h19 : b = a 19
    · subst h19; simp [x1]
    · simp [h19]
theorem jput_jput2 {I : jI} {b c j k : Nat} {v w : Int} (h : b ≠ c) : jput (jput I b j v) c k w = jput (jput I c k w) b j v := by
  funext e i
  simp only [jput]
  by_cases q : e = b
  · subst q; simp [h]
  · simp [q]
theorem turn_cp {B : jI} {mk f al : Int} {z7 : Option jV} {e : Nat} {Z : Code → List Frame → Array Value → State → State → Prop} (hR : RfL E P m a) (hT : RT B a t x) (hW : WX x) (ht : t < 12) (hi : i < (xT x).length) (he : xSt x i = (e : Int)) (hd : 1 ≤ d) :
    ∀ (r k : Nat) (l : List Int), k + r = e → l.length ≤ 2 * k → jJ E yX7_turn.cls cX7_turn 8 (some .int) (jRm d) Z 0 0 292 [some (jp m), some (ji (t : Int)), some (ji mk), some (ji f), some (ji al), some (ji (e : Int)), some (ji (i : Int)), z7] [] (otM B m a (l ++ rowF (xF x) k r)) P → jJ E yX7_turn.cls cX7_turn 8 (some .int) (jRm d) Z 0 0 250 [some (jp m), some (ji (t : Int)), some (ji mk), some (ji f), some (ji al), some (ji (k : Int)), some (ji (i : Int)), z7] [] (otM B m a l) P := by
  have l1 := hW.2.2.2.1
  have t1 := (hW.tk hi).1
  have e11 : ∀ l, otM B m a l (a 11) (201 * (t : Int) + (i : Int)).toNat = xSt x i := fun l => (otM_rt hR hT).g11n hi
  intro r
  induction r with
  | zero =>
    intro k l hk hl kk
    refine jJ_iload (pc := 250) dX7_turn_250 rfl ?_
    refine jJ_aload_n (pc := 252) dX7_turn_252 rfl ?_
    refine jJ_getr (pc := 253) dX7_turn_253 fX7_36 rfl hR.1 hR.p11 ?_
    try simp only [e11]
    refine jJ_sipush (pc := 256) dX7_turn_256 (by decide) ?_
    refine jJ_iload_n (pc := 259) dX7_turn_259 rfl ?_
    refine jJ_imul (pc := 260) dX7_turn_260 ⟨by omega, by omega⟩ ?_
    refine jJ_iload (pc := 261) dX7_turn_261 rfl ?_
    refine jJ_iadd (pc := 263) dX7_turn_263 ⟨by omega, by omega⟩ ?_
    refine jJ_iald (pc := 264) dX7_turn_264 hR.a11 ⟨by omega, by omega⟩ ?_
    try simp only [e11]
    refine jJ_icmp_ge (pc := 265) (tgt := 292) dX7_turn_265 (by decide) (fun c265 => ?_) (fun c265 => ?_)
    · rw [rowF, List.append_nil] at kk
      rw [show k = e by omega]
      exact kk
    · exfalso
      omega
  | succ r ih =>
    intro k l hk hl kk
    have e6 : otM B m a l (a 6) (800 * (t : Int) + (k : Int)).toNat = xF x k := by
      have := (otM_rt (l := l) hR hT).by (p := (k : Int)) (by omega)
      unfold rby at this
      rw [this, Int.toNat_natCast]
    refine jJ_iload (pc := 250) dX7_turn_250 rfl ?_
    refine jJ_aload_n (pc := 252) dX7_turn_252 rfl ?_
    refine jJ_getr (pc := 253) dX7_turn_253 fX7_36 rfl hR.1 hR.p11 ?_
    try simp only [e11]
    refine jJ_sipush (pc := 256) dX7_turn_256 (by decide) ?_
    refine jJ_iload_n (pc := 259) dX7_turn_259 rfl ?_
    refine jJ_imul (pc := 260) dX7_turn_260 ⟨by omega, by omega⟩ ?_
    refine jJ_iload (pc := 261) dX7_turn_261 rfl ?_
    refine jJ_iadd (pc := 263) dX7_turn_263 ⟨by omega, by omega⟩ ?_
    refine jJ_iald (pc := 264) dX7_turn_264 hR.a11 ⟨by omega, by omega⟩ ?_
    try simp only [e11]
    refine jJ_icmp_ge (pc := 265) (tgt := 292) dX7_turn_265 (by decide) (fun c265 => ?_) (fun c265 => ?_)
    · exfalso
      omega
    · refine jJ_aload_n (pc := 268) dX7_turn_268 rfl ?_
      refine jJ_aload_n (pc := 269) dX7_turn_269 rfl ?_
      refine jJ_getr (pc := 270) dX7_turn_270 fX7_21 rfl hR.1 hR.p6 ?_
      try simp only [e6]
      refine jJ_sipush (pc := 273) dX7_turn_273 (by decide) ?_
      refine jJ_iload_n (pc := 276) dX7_turn_276 rfl ?_
      refine jJ_imul (pc := 277) dX7_turn_277 ⟨by omega, by omega⟩ ?_
      refine jJ_iload (pc := 278) dX7_turn_278 rfl ?_
      refine jJ_iadd (pc := 280) dX7_turn_280 ⟨by omega, by omega⟩ ?_
      refine jJ_iald (pc := 281) dX7_turn_281 hR.a6 ⟨by omega, by omega⟩ ?_
      try simp only [e6]
      refine jJ_callVd (pc := 282) (as := [_]) dX7_turn_282 mX7_270 (jRcv_of hR.1 rfl rfl) (Nat.le_of_ble_eq_true rfl) (jRm_ok (by omega) (by decide)) (x_says (d := d - 1) hR (by omega)) ?_
      rw [if_neg (by omega)]
      refine jJ_pop (pc := 285) dX7_turn_285 rfl ?_
      refine jJ_iinc (pc := 286) (ls' := [_, _, _, _, _, _, _, _]) dX7_turn_286 rfl ⟨by omega, by omega⟩ rfl ?_
      refine jJ_goto (pc := 289) (tgt := 250) dX7_turn_289 (by decide) ?_
      refine ih (k + 1) (l ++ [xF x k]) (by omega) (by simp; omega) ?_
      rw [rowF] at kk
      rw [List.append_assoc]
      exact kk
theorem turn_md {B : jI} {mk f al fr : Int} {w : List Int × Int} {Z : Code → List Frame → Array Value → State → State → Prop} {t' i' : Int} (hR : RfL E P m a) (hM : MdI B m a w) (hl2 : w.1.length ≤ 32) (hd : 1 ≤ d) :
    ∀ (r k : Nat) (l : List Int), k + r = w.1.length → l.length + r ≤ 1990 → (∀ z, jJ E yX7_turn.cls cX7_turn 8 (some .int) (jRm d) Z 0 0 330 [some (jp m), some (ji t'), some (ji mk), some (ji f), some (ji al), some (ji fr), some (ji i'), z] [] (otM B m a (l ++ rowF (fun k => w.1.getD k 0) k r)) P) → jJ E yX7_turn.cls cX7_turn 8 (some .int) (jRm d) Z 0 0 303 [some (jp m), some (ji t'), some (ji mk), some (ji f), some (ji al), some (ji fr), some (ji i'), some (ji (k : Int))] [] (otM B m a l) P := by
  have e34 : ∀ l, otM B m a l m 34 = (w.1.length : Int) := fun l => by rw [otM_f hR (by decide)]; exact hM.1
  intro r
  induction r with
  | zero =>
    intro k l hk hl kk
    refine jJ_iload (pc := 303) dX7_turn_303 rfl ?_
    refine jJ_aload_n (pc := 305) dX7_turn_305 rfl ?_
    refine jJ_geti (pc := 306) dX7_turn_306 fX7_273 rfl hR.1 ?_
    try simp only [e34]
    refine jJ_icmp_ge (pc := 309) (tgt := 330) dX7_turn_309 (by decide) (fun c309 => ?_) (fun c309 => ?_)
    · have := kk (some (ji (k : Int)))
      rw [rowF, List.append_nil] at this
      exact this
    · exfalso
      omega
  | succ r ih =>
    intro k l hk hl kk
    have e32 : otM B m a l (a 32) ((k : Int).toNat) = w.1.getD k 0 := by rw [Int.toNat_natCast, otM_row hR (by decide) (by decide)]; exact hM.2.2 k (by omega)
    refine jJ_iload (pc := 303) dX7_turn_303 rfl ?_
    refine jJ_aload_n (pc := 305) dX7_turn_305 rfl ?_
    refine jJ_geti (pc := 306) dX7_turn_306 fX7_273 rfl hR.1 ?_
    try simp only [e34]
    refine jJ_icmp_ge (pc := 309) (tgt := 330) dX7_turn_309 (by decide) (fun c309 => ?_) (fun c309 => ?_)
    · exfalso
      omega
    · refine jJ_aload_n (pc := 312) dX7_turn_312 rfl ?_
      refine jJ_aload_n (pc := 313) dX7_turn_313 rfl ?_
      refine jJ_getr (pc := 314) dX7_turn_314 fX7_72 rfl hR.1 hR.p32 ?_
      try simp only [e32]
      refine jJ_iload (pc := 317) dX7_turn_317 rfl ?_
      refine jJ_iald (pc := 319) dX7_turn_319 hR.a32 ⟨by omega, by omega⟩ ?_
      try simp only [e32]
      refine jJ_callVd (pc := 320) (as := [_]) dX7_turn_320 mX7_270 (jRcv_of hR.1 rfl rfl) (Nat.le_of_ble_eq_true rfl) (jRm_ok (by omega) (by decide)) (x_says (d := d - 1) hR (by omega)) ?_
      rw [if_neg (by omega)]
      refine jJ_pop (pc := 323) dX7_turn_323 rfl ?_
      refine jJ_iinc (pc := 324) (ls' := [_, _, _, _, _, _, _, _]) dX7_turn_324 rfl ⟨by omega, by omega⟩ rfl ?_
      refine jJ_goto (pc := 327) (tgt := 303) dX7_turn_327 (by decide) ?_
      refine ih (k + 1) (l ++ [w.1.getD k 0]) (by omega) (by simp; omega) (fun z => ?_)
      have := kk z
      rw [rowF] at this
      rw [List.append_assoc]
      exact this
theorem turn_fin {B : jI} {mk f al : Int} {z6 z7 : Option jV} {Z : Code → List Frame → Array Value → State → State → Prop} (hR : RfL E P m a) (hT : RT B a t x) (hW : WX x) (ht : t < 12) (hd : 1 ≤ d) :
    ∀ (r k : Nat) (l : List Int), k + r = xN x → l.length ≤ 2 * k → (∀ z, jJ E yX7_turn.cls cX7_turn 8 (some .int) (jRm d) Z 0 0 389 [some (jp m), some (ji (t : Int)), some (ji mk), some (ji f), some (ji al), z, z6, z7] [] (otM B m a (l ++ rowF (xF x) k r)) P) → jJ E yX7_turn.cls cX7_turn 8 (some .int) (jRm d) Z 0 0 354 [some (jp m), some (ji (t : Int)), some (ji mk), some (ji f), some (ji al), some (ji (k : Int)), z6, z7] [] (otM B m a l) P := by
  have h800 := hW.1
  have e7 : ∀ l, otM B m a l (a 7) ((t : Int).toNat) = (xN x : Int) := fun l => by rw [Int.toNat_natCast]; exact (otM_rt hR hT).1
  intro r
  induction r with
  | zero =>
    intro k l hk hl kk
    refine jJ_iload (pc := 354) dX7_turn_354 rfl ?_
    refine jJ_aload_n (pc := 356) dX7_turn_356 rfl ?_
    refine jJ_getr (pc := 357) dX7_turn_357 fX7_24 rfl hR.1 hR.p7 ?_
    try simp only [e7]
    refine jJ_iload_n (pc := 360) dX7_turn_360 rfl ?_
    refine jJ_iald (pc := 361) dX7_turn_361 hR.a7 ⟨by omega, by omega⟩ ?_
    try simp only [e7]
    refine jJ_icmp_ge (pc := 362) (tgt := 389) dX7_turn_362 (by decide) (fun c362 => ?_) (fun c362 => ?_)
    · have := kk (some (ji (k : Int)))
      rw [rowF, List.append_nil] at this
      exact this
    · exfalso
      omega
  | succ r ih =>
    intro k l hk hl kk
    have e6 : otM B m a l (a 6) (800 * (t : Int) + (k : Int)).toNat = xF x k := by
      have := (otM_rt (l := l) hR hT).by (p := (k : Int)) (by omega)
      unfold rby at this
      rw [this, Int.toNat_natCast]
    refine jJ_iload (pc := 354) dX7_turn_354 rfl ?_
    refine jJ_aload_n (pc := 356) dX7_turn_356 rfl ?_
    refine jJ_getr (pc := 357) dX7_turn_357 fX7_24 rfl hR.1 hR.p7 ?_
    try simp only [e7]
    refine jJ_iload_n (pc := 360) dX7_turn_360 rfl ?_
    refine jJ_iald (pc := 361) dX7_turn_361 hR.a7 ⟨by omega, by omega⟩ ?_
    try simp only [e7]
    refine jJ_icmp_ge (pc := 362) (tgt := 389) dX7_turn_362 (by decide) (fun c362 => ?_) (fun c362 => ?_)
    · exfalso
      omega
    · refine jJ_aload_n (pc := 365) dX7_turn_365 rfl ?_
      refine jJ_aload_n (pc := 366) dX7_turn_366 rfl ?_
      refine jJ_getr (pc := 367) dX7_turn_367 fX7_21 rfl hR.1 hR.p6 ?_
      try simp only [e6]
      refine jJ_sipush (pc := 370) dX7_turn_370 (by decide) ?_
      refine jJ_iload_n (pc := 373) dX7_turn_373 rfl ?_
      refine jJ_imul (pc := 374) dX7_turn_374 ⟨by omega, by omega⟩ ?_
      refine jJ_iload (pc := 375) dX7_turn_375 rfl ?_
      refine jJ_iadd (pc := 377) dX7_turn_377 ⟨by omega, by omega⟩ ?_
      refine jJ_iald (pc := 378) dX7_turn_378 hR.a6 ⟨by omega, by omega⟩ ?_
      try simp only [e6]
      refine jJ_callVd (pc := 379) (as := [_]) dX7_turn_379 mX7_270 (jRcv_of hR.1 rfl rfl) (Nat.le_of_ble_eq_true rfl) (jRm_ok (by omega) (by decide)) (x_says (d := d - 1) hR (by omega)) ?_
      rw [if_neg (by omega)]
      refine jJ_pop (pc := 382) dX7_turn_382 rfl ?_
      refine jJ_iinc (pc := 383) (ls' := [_, _, _, _, _, _, _, _]) dX7_turn_383 rfl ⟨by omega, by omega⟩ rfl ?_
      refine jJ_goto (pc := 386) (tgt := 354) dX7_turn_386 (by decide) ?_
      refine ih (k + 1) (l ++ [xF x k]) (by omega) (by simp; omega) (fun z => ?_)
      have := kk z
      rw [rowF] at this
      rw [List.append_assoc]
      exact this
theorem turn_lp2 {B0 : jI} {mk f al : Int} {n : Nat} {Z : Code → List Frame → Array Value → State → State → Prop} (hR : RfL E P m a) (hT : RT B0 a t x) (hW : WX x) (ht : t < 12) (hn : n = (xT x).length) (hm : mk = 0 ∨ mk = 1) (hd : 7 ≤ d) :
    ∀ (r i dn : Nat) (l : List Int) (B : jI) (z7 : Option jV), i + r = n → mF B0 m a B → l.length ≤ 2 * dn → dn ≤ xN x → (∀ j, i ≤ j → j < (xT x).length → (dn : Int) ≤ xSt x j) → (∀ B' z6 z7, mF B0 m a B' → (uW x mk r i dn l).2.length ≤ 2 * (uW x mk r i dn l).1 → jJ E yX7_turn.cls cX7_turn 8 (some .int) (jRm d) Z 0 0 354 [some (jp m), some (ji (t : Int)), some (ji mk), some (ji f), some (ji al), some (ji ((uW x mk r i dn l).1 : Int)), z6, z7] [] (otM B' m a (uW x mk r i dn l).2) P) → jJ E yX7_turn.cls cX7_turn 8 (some .int) (jRm d) Z 0 0 226 [some (jp m), some (ji (t : Int)), some (ji mk), some (ji f), some (ji al), some (ji (dn : Int)), some (ji (i : Int)), z7] [] (otM B m a l) P := by
  have l1 := hW.2.2.2.1
  intro r
  induction r with
  | zero =>
    intro i dn l B z7 hi hB h1 h2 h3 kk
    have e9 : otM B m a l (a 9) ((t : Int).toNat) = ((xT x).length : Int) := by rw [Int.toNat_natCast]; exact (otM_rt hR (hB.rt hR hT)).2.2.1
    refine jJ_iload (pc := 226) dX7_turn_226 rfl ?_
    refine jJ_aload_n (pc := 228) dX7_turn_228 rfl ?_
    refine jJ_getr (pc := 229) dX7_turn_229 fX7_30 rfl hR.1 hR.p9 ?_
    try simp only [e9]
    refine jJ_iload_n (pc := 232) dX7_turn_232 rfl ?_
    refine jJ_iald (pc := 233) dX7_turn_233 hR.a9 ⟨by omega, by omega⟩ ?_
    try simp only [e9]
    refine jJ_icmp_ge (pc := 234) (tgt := 354) dX7_turn_234 (by decide) (fun c234 => ?_) (fun c234 => ?_)
    · exact kk B _ _ hB h1
    · exfalso
      omega
  | succ r ih =>
    intro i dn l B z7 hi hB h1 h2 h3 kk
    have hTB := hB.rt hR hT
    have hTO := otM_rt (l := l) hR hTB
    have e9 : otM B m a l (a 9) ((t : Int).toNat) = ((xT x).length : Int) := by rw [Int.toNat_natCast]; exact hTO.2.2.1
    have tk := hW.tk (i := i) (by omega)
    have hs := h3 i (by omega) (by omega)
    have nl := xNm_len x i
    have m2 := made_l2 mk (xNm x i)
    have m32 := made_len mk (xNm x i)
    refine jJ_iload (pc := 226) dX7_turn_226 rfl ?_
    refine jJ_aload_n (pc := 228) dX7_turn_228 rfl ?_
    refine jJ_getr (pc := 229) dX7_turn_229 fX7_30 rfl hR.1 hR.p9 ?_
    try simp only [e9]
    refine jJ_iload_n (pc := 232) dX7_turn_232 rfl ?_
    refine jJ_iald (pc := 233) dX7_turn_233 hR.a9 ⟨by omega, by omega⟩ ?_
    try simp only [e9]
    refine jJ_icmp_ge (pc := 234) (tgt := 354) dX7_turn_234 (by decide) (fun c234 => ?_) (fun c234 => ?_)
    · exfalso
      omega
    · refine jJ_aload_n (pc := 237) dX7_turn_237 rfl ?_
      refine jJ_iload_n (pc := 238) dX7_turn_238 rfl ?_
      refine jJ_iload (pc := 239) dX7_turn_239 rfl ?_
      refine jJ_callVd (pc := 241) (as := [_, _]) dX7_turn_241 mX7_293 (jRcv_of hR.1 rfl rfl) (Nat.le_of_ble_eq_true rfl) (jRm_ok (by omega) (by decide)) (x_isNameAt (d := d - 1) hR hTO hW ht (by omega) (by omega)) ?_
      refine jJ_if_ne (pc := 244) (tgt := 250) dX7_turn_244 (by decide) (fun c244 => ?_) (fun c244 => ?_)
      · simp only [jb_nz] at c244
        rw [uW, if_pos c244] at kk
        refine turn_cp hR hTB hW ht (by omega) (show xSt x i = (((xSt x i).toNat : Nat) : Int) by omega) (by omega) ((xSt x i).toNat - dn) dn l (by omega) h1 ?_
        have hTO2 := otM_rt (l := l ++ rowF (xF x) dn ((xSt x i).toNat - dn)) hR hTB
        refine jJ_aload_n (pc := 292) dX7_turn_292 rfl ?_
        refine jJ_iload_n (pc := 293) dX7_turn_293 rfl ?_
        refine jJ_iload (pc := 294) dX7_turn_294 rfl ?_
        refine jJ_iload_n (pc := 296) dX7_turn_296 rfl ?_
        refine jJ_callVd (pc := 297) (as := [_, _, _]) dX7_turn_297 mX7_289 (jRcv_of hR.1 rfl rfl) (Nat.le_of_ble_eq_true rfl) (jRm_ok (by omega) (by decide)) (x_makes (d := d - 1) hR hTO2 hW ht (by omega) c244 hm (by omega)) ?_
        rw [mdM_otM hR]
        have hM : MdI (mdM B m a (made mk (xNm x i))) m a (made mk (xNm x i)) := MdI.of hR
        have hB2 : mF B0 m a (mdM B m a (made mk (xNm x i))) := hB.tr (mF.md hR)
        generalize mdM B m a (made mk (xNm x i)) = B2 at *
        refine jJ_iconst (pc := 300) dX7_turn_300 (by decide) ?_
        refine jJ_istore (pc := 301) (ls' := [_, _, _, _, _, _, _, _]) dX7_turn_301 (Nat.le_of_ble_eq_true rfl) rfl ?_
        refine turn_md hR hM m32 (by omega) (made mk (xNm x i)).1.length 0 _ (by omega) (by simp only [List.length_append, rowF_len]; omega) (fun z => ?_)
        rw [rowF_gd]
        have e12 : ∀ l, otM B2 m a l (a 12) (201 * (t : Int) + (i : Int)).toNat = ((xEn x i - xSt x i).toNat : Int) := fun l => (otM_rt hR (hB2.rt hR hT)).g12n hW (by omega)
        refine jJ_iload (pc := 330) dX7_turn_330 rfl ?_
        refine jJ_aload_n (pc := 332) dX7_turn_332 rfl ?_
        refine jJ_getr (pc := 333) dX7_turn_333 fX7_39 rfl hR.1 hR.p12 ?_
        try simp only [e12]
        refine jJ_sipush (pc := 336) dX7_turn_336 (by decide) ?_
        refine jJ_iload_n (pc := 339) dX7_turn_339 rfl ?_
        refine jJ_imul (pc := 340) dX7_turn_340 ⟨by omega, by omega⟩ ?_
        refine jJ_iload (pc := 341) dX7_turn_341 rfl ?_
        refine jJ_iadd (pc := 343) dX7_turn_343 ⟨by omega, by omega⟩ ?_
        refine jJ_iald (pc := 344) dX7_turn_344 hR.a12 ⟨by omega, by omega⟩ ?_
        try simp only [e12]
        refine jJ_iadd (pc := 345) dX7_turn_345 ⟨by omega, by omega⟩ ?_
        refine jJ_istore (pc := 346) (ls' := [_, _, _, _, _, _, _, _]) dX7_turn_346 (Nat.le_of_ble_eq_true rfl) rfl ?_
        rw [show (((xSt x i).toNat : Nat) : Int) + ((xEn x i - xSt x i).toNat : Int) = (((xEn x i).toNat : Nat) : Int) by omega]
        refine jJ_iinc (pc := 348) (ls' := [_, _, _, _, _, _, _, _]) dX7_turn_348 rfl ⟨by omega, by omega⟩ rfl ?_
        refine jJ_goto (pc := 351) (tgt := 226) dX7_turn_351 (by decide) ?_
        exact ih (i + 1) (xEn x i).toNat _ B2 z (by omega) hB2 (by simp only [List.length_append, rowF_len]; omega) (by omega) (fun j h4 h5 => by have := hW.mono j i (by omega) h5; omega) kk
      · simp only [jb_z] at c244
        rw [uW, if_neg c244] at kk
        refine jJ_goto (pc := 247) (tgt := 348) dX7_turn_247 (by decide) ?_
        refine jJ_iinc (pc := 348) (ls' := [_, _, _, _, _, _, _, _]) dX7_turn_348 rfl ⟨by omega, by omega⟩ rfl ?_
        refine jJ_goto (pc := 351) (tgt := 226) dX7_turn_351 (by decide) ?_
        exact ih (i + 1) dn l B z7 (by omega) hB h1 h2 (fun j h4 h5 => h3 j (by omega) h5) kk
theorem r_turn {X : Nat → TX} {t mk : Int} (hR : RfL E P m a) (hX : RTs I a X) (hd : 7 ≤ d) : jC E yX7_turn cX7_turn 8 (some .int) d [jp m, ji t, ji mk] I P (fun v I' P' => P' = P ∧ ((rTh I a t ∧ (mk = 0 ∨ mk = 1) ∧ ouQ I m a t (tuX (X t.toNat) mk) v I') ∨ (¬ rTh I a t ∧ v = some (ji 0) ∧ I' = jput I m 0 1) ∨ (rTh I a t ∧ ¬ (mk = 0 ∨ mk = 1) ∧ v = some (ji 0) ∧ I' = jput I m 0 2))) := by
  have n19 := hR.n19
  refine jC_intro (by decide +kernel) (by simp [jc, va_rf, Value.category]) (Nat.le_of_ble_eq_true rfl) ?_
  refine jJ_aload_n (pc := 0) dX7_turn_0 rfl ?_
  refine jJ_iload_n (pc := 1) dX7_turn_1 rfl ?_
  refine jJ_callVd (pc := 2) (as := [_]) dX7_turn_2 mX7_216 (jRcv_of hR.1 rfl rfl) (Nat.le_of_ble_eq_true rfl) (jRm_ok (by omega) (by decide)) (r_isThere (d := d - 1) hR (by omega)) ?_
  by_cases ht : 0 ≤ t ∧ t < 12 ∧ I (a 5) t.toNat ≠ 0
  · obtain ⟨hT, hW⟩ := hX t.toNat (by omega) ht.2.2
    obtain ⟨t', rfl⟩ : ∃ t' : Nat, t = (t' : Int) := ⟨t.toNat, by omega⟩
    rw [Int.toNat_natCast] at *
    have gT : rTh I a (t' : Int) := by rw [rTh, Int.toNat_natCast]; exact ht
    rw [← jb_t ht, thM_t ht]
    have hl := hW.2.2.2.1
    have h800 := hW.1
    have hT0 : RT (jput (jput I m 0 0) m 21 (-1)) a t' (X t') := (hT.cg (fun j h1 h2 => jput_row (hR.nm (rfK_515 j (by omega) h2)))).cg (fun j h1 h2 => jput_row (hR.nm (rfK_515 j (by omega) h2)))
    have base : ∀ (B : jI) (l : List Int) (v21 : Int) (q : Option (List Int)), mF (jput (jput I m 0 0) m 21 v21) m a B → l = q.getD [] → v21 = q.elim (-1) (fun _ => (t' : Int)) → (∀ l, q = some l → l.length ≤ 2000) → ouQ I m a (t' : Int) q (some (ji (q.elim (-1) (fun l => (l.length : Int))))) (otM B m a l) := by
      intro B l v21 q hB hl hv hq
      refine ⟨rfl, hq, fun b h1 h2 h3 h4 => ?_, fun k h0 h20 h21 h34 h35 => ?_, ?_, ?_, ?_, fun k hk => ?_⟩
      · rw [otM_x h1 h2, hB.1 b h1 h3 h4]; funext j; rw [jput_a _ h1, jput_a _ h1]
      · rw [otM_f hR h20, hB.2 k h34 h35, jput_k _ h21, jput_k _ h0]
      · rw [otM_f hR (by decide), hB.2 0 (by decide) (by decide), jput_k _ (by decide), jput_s]
      · rw [otM_20, hl]
      · rw [otM_f hR (by decide), hB.2 21 (by decide) (by decide), jput_s, hv]
      · unfold otM
        rw [if_neg (fun z => n19 z.1), if_pos ⟨rfl, by rw [hl]; exact hk⟩, hl]
    have k32 : (mk = 0 ∨ mk = 1) → jJ E yX7_turn.cls cX7_turn 8 (some .int) (jRm d) (jZ E (fun v I' P' => P' = P ∧ ((rTh I a (t' : Int) ∧ (mk = 0 ∨ mk = 1) ∧ ouQ I m a (t' : Int) (tuX (X t') mk) v I') ∨ (¬ rTh I a (t' : Int) ∧ v = some (ji 0) ∧ I' = jput I m 0 1) ∨ (rTh I a (t' : Int) ∧ ¬ (mk = 0 ∨ mk = 1) ∧ v = some (ji 0) ∧ I' = jput I m 0 2)))) 0 0 32 [some (jp m), some (ji (t' : Int)), some (ji mk), none, none, none, none, none] [] (jput I m 0 0) P := by
      intro hm
      refine jJ_aload_n (pc := 32) dX7_turn_32 rfl ?_
      refine jJ_callVd (pc := 33) (as := []) dX7_turn_33 mX7_267 (jRcv_of hR.1 rfl rfl) (Nat.le_of_ble_eq_true rfl) (jRm_ok (by omega) (by decide)) (r_none (d := d - 1) hR) ?_
      rw [otM_nil (a := a)]
      have e7 : otM (jput (jput I m 0 0) m 21 (-1)) m a [] (a 7) ((t' : Int).toNat) = (xN (X t') : Int) := by rw [Int.toNat_natCast]; exact (otM_rt hR hT0).1
      refine jJ_pop (pc := 36) dX7_turn_36 rfl ?_
      refine jJ_iconst (pc := 37) dX7_turn_37 (by decide) ?_
      refine jJ_istore_n (pc := 38) (ls' := [_, _, _, _, _, _, _, _]) dX7_turn_38 (Nat.le_of_ble_eq_true rfl) rfl ?_
      refine jJ_aload_n (pc := 39) dX7_turn_39 rfl ?_
      refine jJ_getr (pc := 40) dX7_turn_40 fX7_24 rfl hR.1 hR.p7 ?_
      try simp only [e7]
      refine jJ_iload_n (pc := 43) dX7_turn_43 rfl ?_
      refine jJ_iald (pc := 44) dX7_turn_44 hR.a7 ⟨by omega, by omega⟩ ?_
      try simp only [e7]
      refine jJ_istore (pc := 45) (ls' := [_, _, _, _, _, _, _, _]) dX7_turn_45 (Nat.le_of_ble_eq_true rfl) rfl ?_
      refine jJ_iconst (pc := 47) dX7_turn_47 (by decide) ?_
      refine jJ_istore (pc := 48) (ls' := [_, _, _, _, _, _, _, _]) dX7_turn_48 (Nat.le_of_ble_eq_true rfl) rfl ?_
      -- the memory as OUT over a base that only the making changes
      have split : ∀ J, mF (otM (jput (jput I m 0 0) m 21 (-1)) m a []) m a J → ∃ B, mF (jput (jput I m 0 0) m 21 (-1)) m a B ∧ J = otM B m a [] := by
        intro J hJ
        have e20 : J m 20 = 0 := by rw [hJ.2 20 (by decide) (by decide), otM_20]; rfl
        refine ⟨jput J m 20 (jput (jput I m 0 0) m 21 (-1) m 20), ⟨fun b h1 h2 h3 => ?_, fun k h1 h2 => ?_⟩, ?_⟩
        · funext j
          rw [jput_a _ h1, hJ.1 b h1 h2 h3]
          by_cases q : b = a 19
          · rw [q]; unfold otM; rw [if_neg (fun z => n19 z.1), if_neg (fun z => absurd z.2 (Nat.not_lt_zero j))]
          · rw [otM_x h1 q]
        · by_cases q : k = 20
          · rw [q, jput_s]
          · rw [jput_k _ q, hJ.2 k h1 h2, otM_f hR q]
        · funext b j
          unfold otM
          by_cases q : b = m ∧ j = 20
          · rw [if_pos q, q.1, q.2, e20]; rfl
          · rw [if_neg q, if_neg (fun z => absurd z.2 (Nat.not_lt_zero j))]
            simp only [jput]
            rw [if_neg q]
      have hTO := otM_rt (l := []) hR hT0
      refine turn_lp1 hR hTO hW (by omega) rfl hm hd (xT (X t')).length 0 _ _ (by omega) (by omega) (by omega) mF.rf (fun J z hJ hok => ?_) (fun J al' z hJ hok => ?_)
      · rw [← uL_len hW]
        obtain ⟨B, hB, rfl⟩ := split J hJ
        refine jJ_iload_n (pc := 206) dX7_turn_206 rfl ?_
        refine jJ_if_eq (pc := 207) (tgt := 218) dX7_turn_207 (by decide) (fun c207 => ?_) (fun c207 => ?_)
        · exact absurd c207 (by decide)
        · refine jJ_iload (pc := 210) dX7_turn_210 rfl ?_
          refine jJ_sipush (pc := 212) dX7_turn_212 (by decide) ?_
          refine jJ_icmp_le (pc := 215) (tgt := 220) dX7_turn_215 (by decide) (fun c215 => ?_) (fun c215 => ?_)
          · refine jJ_iconst (pc := 220) dX7_turn_220 (by decide) ?_
            refine jJ_istore (pc := 221) (ls' := [_, _, _, _, _, _, _, _]) dX7_turn_221 (Nat.le_of_ble_eq_true rfl) rfl ?_
            refine jJ_iconst (pc := 223) dX7_turn_223 (by decide) ?_
            refine jJ_istore (pc := 224) (ls' := [_, _, _, _, _, _, _, _]) dX7_turn_224 (Nat.le_of_ble_eq_true rfl) rfl ?_
            refine turn_lp2 hR hT0 hW (by omega) rfl hm hd (xT (X t')).length 0 0 [] B none (by omega) hB (by simp) (by omega) (fun j _ h => by have := (hW.tk h).1; omega) (fun B' z6 z7 hB' h2 => ?_)
            have hul := (uW_len hW (mk := mk) (xT (X t')).length 0 0 [] (by omega) (by omega) (fun j _ h => by have := (hW.tk h).1; omega)).1
            refine turn_fin hR (hB'.rt hR hT0) hW (by omega) (by omega) (xN (X t') - (uW (X t') mk (xT (X t')).length 0 0 []).1) _ _ (by omega) h2 (fun z => ?_)
            have he : tuX (X t') mk = some (uL (X t') mk) := by unfold tuX; rw [if_pos ⟨hok, by omega⟩]
            refine jJ_I (show _ = otM B' m a (uL (X t') mk) from rfl) ?_
            refine jJ_aload_n (pc := 389) dX7_turn_389 rfl ?_
            refine jJ_iload_n (pc := 390) dX7_turn_390 rfl ?_
            refine jJ_puti (pc := 391) dX7_turn_391 fX7_60w rfl ⟨rfl, rfl⟩ hR.1 ?_
            try simp only [otM_p hR (show (21 : Nat) ≠ 20 by decide), otM_20]
            refine jJ_aload_n (pc := 394) dX7_turn_394 rfl ?_
            refine jJ_geti (pc := 395) dX7_turn_395 fX7_264 rfl hR.1 ?_
            try simp only [otM_p hR (show (21 : Nat) ≠ 20 by decide), otM_20]
            refine jJ_iret (pc := 398) dX7_turn_398 rfl ?_
            refine ⟨rfl, Or.inl ⟨gT, hm, ?_⟩⟩
            rw [he]
            refine base (jput B' m 21 (t' : Int)) (uL (X t') mk) (t' : Int) (some (uL (X t') mk)) ⟨fun b h1 h2 h3 => ?_, fun k h1 h2 => ?_⟩ rfl rfl (fun l h => by cases h; omega)
            · funext j
              rw [jput_a _ h1, hB'.1 b h1 h2 h3, jput_a _ h1, jput_a _ h1, jput_a _ h1, jput_a _ h1]
            · by_cases q : k = 21
              · rw [q, jput_s, jput_s]
              · rw [jput_k _ q, hB'.2 k h1 h2, jput_k _ q, jput_k _ q]
          · refine jJ_iconst (pc := 218) dX7_turn_218 (by decide) ?_
            refine jJ_iret (pc := 219) dX7_turn_219 rfl ?_
            refine ⟨rfl, Or.inl ⟨gT, hm, ?_⟩⟩
            have he : tuX (X t') mk = none := by unfold tuX; rw [if_neg (by omega)]
            rw [he]
            exact base B [] (-1) none hB rfl rfl (fun l h => by cases h)
      · obtain ⟨B, hB, rfl⟩ := split J hJ
        refine jJ_iload_n (pc := 206) dX7_turn_206 rfl ?_
        refine jJ_if_eq (pc := 207) (tgt := 218) dX7_turn_207 (by decide) (fun c207 => ?_) (fun c207 => ?_)
        · refine jJ_iconst (pc := 218) dX7_turn_218 (by decide) ?_
          refine jJ_iret (pc := 219) dX7_turn_219 rfl ?_
          refine ⟨rfl, Or.inl ⟨gT, hm, ?_⟩⟩
          have he : tuX (X t') mk = none := by unfold tuX; rw [if_neg (by rw [hok]; simp)]
          rw [he]
          exact base B [] (-1) none hB rfl rfl (fun l h => by cases h)
        · exact absurd rfl c207
    refine jJ_if_eq (pc := 5) (tgt := 30) dX7_turn_5 (by decide) (fun c5 => ?_) (fun c5 => ?_)
    · exact absurd c5 (by decide)
    · refine jJ_aload_n (pc := 8) dX7_turn_8 rfl ?_
      refine jJ_iload_n (pc := 9) dX7_turn_9 rfl ?_
      refine jJ_if_eq (pc := 10) (tgt := 18) dX7_turn_10 (by decide) (fun c10 => ?_) (fun c10 => ?_)
      · refine jJ_iconst (pc := 18) dX7_turn_18 (by decide) ?_
        refine jJ_goto (pc := 19) (tgt := 23) dX7_turn_19 (by decide) ?_
        refine jJ_iconst (pc := 23) dX7_turn_23 (by decide) ?_
        refine jJ_callVd (pc := 24) (as := [_, _]) dX7_turn_24 mX7_208 (jRcv_of hR.1 rfl rfl) (Nat.le_of_ble_eq_true rfl) (jRm_ok (by omega) (by decide)) (r_right (d := d - 1) hR) ?_
        try simp only [rgT, rgF, jput_s, jb_00, jb_10, jb_T, jb_F, show ((2 : Int) = 0) = False from by simp]
        refine jJ_if_ne (pc := 27) (tgt := 32) dX7_turn_27 (by decide) (fun c27 => ?_) (fun c27 => ?_)
        · first | (exfalso; omega) | exact k32 (by omega)
        · refine jJ_iconst (pc := 30) dX7_turn_30 (by decide) ?_
          refine jJ_iret (pc := 31) dX7_turn_31 rfl ?_
          first | (exfalso; omega) | exact ⟨rfl, Or.inr (Or.inr ⟨gT, by omega, rfl, rfl⟩)⟩
      · refine jJ_iload_n (pc := 13) dX7_turn_13 rfl ?_
        refine jJ_iconst (pc := 14) dX7_turn_14 (by decide) ?_
        refine jJ_icmp_ne (pc := 15) (tgt := 22) dX7_turn_15 (by decide) (fun c15 => ?_) (fun c15 => ?_)
        · refine jJ_iconst (pc := 22) dX7_turn_22 (by decide) ?_
          refine jJ_iconst (pc := 23) dX7_turn_23 (by decide) ?_
          refine jJ_callVd (pc := 24) (as := [_, _]) dX7_turn_24 mX7_208 (jRcv_of hR.1 rfl rfl) (Nat.le_of_ble_eq_true rfl) (jRm_ok (by omega) (by decide)) (r_right (d := d - 1) hR) ?_
          try simp only [rgT, rgF, jput_s, jb_00, jb_10, jb_T, jb_F, show ((2 : Int) = 0) = False from by simp]
          refine jJ_if_ne (pc := 27) (tgt := 32) dX7_turn_27 (by decide) (fun c27 => ?_) (fun c27 => ?_)
          · first | (exfalso; omega) | exact k32 (by omega)
          · refine jJ_iconst (pc := 30) dX7_turn_30 (by decide) ?_
            refine jJ_iret (pc := 31) dX7_turn_31 rfl ?_
            first | (exfalso; omega) | exact ⟨rfl, Or.inr (Or.inr ⟨gT, by omega, rfl, rfl⟩)⟩
        · refine jJ_iconst (pc := 18) dX7_turn_18 (by decide) ?_
          refine jJ_goto (pc := 19) (tgt := 23) dX7_turn_19 (by decide) ?_
          refine jJ_iconst (pc := 23) dX7_turn_23 (by decide) ?_
          refine jJ_callVd (pc := 24) (as := [_, _]) dX7_turn_24 mX7_208 (jRcv_of hR.1 rfl rfl) (Nat.le_of_ble_eq_true rfl) (jRm_ok (by omega) (by decide)) (r_right (d := d - 1) hR) ?_
          try simp only [rgT, rgF, jput_s, jb_00, jb_10, jb_T, jb_F, show ((2 : Int) = 0) = False from by simp]
          refine jJ_if_ne (pc := 27) (tgt := 32) dX7_turn_27 (by decide) (fun c27 => ?_) (fun c27 => ?_)
          · first | (exfalso; omega) | exact k32 (by omega)
          · refine jJ_iconst (pc := 30) dX7_turn_30 (by decide) ?_
            refine jJ_iret (pc := 31) dX7_turn_31 rfl ?_
            first | (exfalso; omega) | exact ⟨rfl, Or.inr (Or.inr ⟨gT, by omega, rfl, rfl⟩)⟩
  · rw [← jb_f ht, thM_f ht]
    refine jJ_if_eq (pc := 5) (tgt := 30) dX7_turn_5 (by decide) (fun c5 => ?_) (fun c5 => ?_)
    · refine jJ_iconst (pc := 30) dX7_turn_30 (by decide) ?_
      refine jJ_iret (pc := 31) dX7_turn_31 rfl ?_
      exact ⟨rfl, Or.inr (Or.inl ⟨ht, rfl, rfl⟩)⟩
    · exact absurd rfl c5
end JRV
