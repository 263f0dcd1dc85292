section JRS
/-- how a step of the reader moves its numbers, by the TOKEN -/
def Sp (s s' : Nat → Int) : Prop := s' 2 = s 2 + (if s 10 = 123 then 1 else 0) - (if s 10 = 125 then 1 else 0) ∧ ((s 10 = 123 ∨ s 10 = 40) → (s 1 < 6 → s' 1 = s 1 + 1 ∧ s' 3 = 0) ∧ (s 1 = 6 → s' 3 ≠ 0)) ∧ (¬ (s 10 = 123 ∨ s 10 = 40) → s' 1 = s 1 - (if s 10 = 125 ∨ s 10 = 41 then 1 else 0) ∧ s' 3 = 0)
theorem Sp_su {s : Nat → Int} {v : Int} (h3 : s 3 = 0) (h : s 10 ≠ 123 ∧ s 10 ≠ 40 ∧ s 10 ≠ 125 ∧ s 10 ≠ 41) : Sp s (su s 4 v) := by
  unfold Sp
  simp only [su_1_4, su_2_4, su_3_4]
  rw [if_neg h.1, if_neg h.2.2.1, if_neg (by omega)]
  exact ⟨by omega, fun z => by omega, fun _ => ⟨by omega, h3⟩⟩
theorem Sp_push {s : Nat → Int} {v : Int} (h1 : 0 ≤ s 1 ∧ s 1 ≤ 6) (h3 : s 3 = 0) (h : s 10 = 40) : Sp s (pushS (su s 4 v)) := by
  unfold Sp
  rw [if_neg (by omega), if_neg (by omega)]
  unfold pushS
  split
  · next q =>
    simp only [su_1_4] at q
    simp only [su_1_4, su_2_1, su_2_4, su_3_1, su_3_4, su_s]
    exact ⟨by omega, fun _ => ⟨fun _ => ⟨trivial, h3⟩, fun z => by omega⟩, fun z => by omega⟩
  · next q =>
    simp only [su_1_4] at q
    simp only [su_1_3, su_2_3, su_2_4, su_s]
    exact ⟨by omega, fun _ => ⟨fun z => by omega, fun _ => by decide⟩, fun z => by omega⟩
theorem Sp_endBr {s r : Nat → Int} (h3 : s 3 = 0) (h : s 10 = 41) : Sp s (endBrS s r) := by
  unfold Sp endBrS
  simp only [su_2_1, su_2_4, su_3_1, su_3_4, su_s]
  rw [if_neg (by omega), if_neg (by omega), if_pos (by omega)]
  exact ⟨by omega, fun z => by omega, fun _ => ⟨rfl, h3⟩⟩
theorem Sp_endBl {s r : Nat → Int} (h3 : s 3 = 0) (h : s 10 = 125) (hr : rInner s r ≠ -1) : Sp s (endBlS s r) := by
  unfold Sp endBlS
  rw [if_neg hr]
  simp only [su_1_2, su_1_4, su_1_5, su_2_1, su_2_4, su_2_5, su_3_1, su_3_2, su_3_4, su_3_5, su_s]
  rw [if_neg (by omega), if_pos h, if_pos (by omega)]
  exact ⟨by omega, fun z => by omega, fun _ => ⟨rfl, h3⟩⟩
theorem Sp_stBl {s : Nat → Int} (h1 : 0 ≤ s 1 ∧ s 1 ≤ 6) (h3 : s 3 = 0) (h : s 10 = 123) : Sp s (stBlS s) := by
  unfold Sp
  rw [if_pos h, if_neg (by omega)]
  unfold stBlS pushS
  split
  · next q =>
    simp only [su_1_2, su_1_4] at q
    simp only [su_1_2, su_1_4, su_2_1, su_2_4, su_3_1, su_3_2, su_3_4, su_s]
    exact ⟨by omega, fun _ => ⟨fun _ => ⟨trivial, h3⟩, fun z => by omega⟩, fun z => by omega⟩
  · next q =>
    simp only [su_1_2, su_1_4] at q
    simp only [su_1_3, su_2_3, su_2_4, su_s]
    exact ⟨by omega, fun _ => ⟨fun z => by omega, fun _ => by decide⟩, fun z => by omega⟩
theorem Sp_own {s : Nat → Int} {x v : Int} (h3 : s 3 = 0) (h : s 10 ≠ 123 ∧ s 10 ≠ 40 ∧ s 10 ≠ 125 ∧ s 10 ≠ 41) : Sp s (ownS s x v) := by
  unfold Sp ownS
  simp only [su_1_4, su_1_6, su_1_5, su_2_4, su_2_6, su_2_5, su_3_4, su_3_6, su_3_5]
  rw [if_neg h.1, if_neg h.2.2.1, if_neg (by omega)]
  exact ⟨by omega, fun z => by omega, fun _ => ⟨by omega, h3⟩⟩
theorem Sp_spt {s : Nat → Int} (h1 : 0 ≤ s 1 ∧ s 1 ≤ 6) (h3 : s 3 = 0) (hv : sptV s ≠ 0) : Sp s (sptS s) := by
  unfold sptV at hv
  unfold sptS
  split
  · exact Sp_push h1 h3 (by assumption)
  · next h =>
    rw [if_neg h] at hv
    have := jb_nz.mp hv
    rw [if_pos this]; exact Sp_su h3 (by omega)
theorem Sp_go {s r : Nat → Int} (h1 : 0 ≤ s 1 ∧ s 1 ≤ 6) (h3 : s 3 = 0) (hv : goV s r ≠ 0) : Sp s (goS s r) := by
  unfold goV at hv
  unfold goS
  by_cases q1 : s 10 = 43 ∨ s 10 = 45 ∨ s 10 = 60
  · rw [if_pos q1]; exact Sp_su h3 (by omega)
  rw [if_neg q1] at hv ⊢
  by_cases q2 : rInner s r = 0
  · rw [if_pos q2] at hv ⊢
    rw [if_pos (jb_nz.mp hv)]
    exact Sp_endBr h3 (jb_nz.mp hv)
  rw [if_neg q2] at hv ⊢
  by_cases q3 : rInner s r = 1
  · rw [if_pos q3] at hv ⊢
    by_cases q4 : s 10 = 41
    · rw [if_pos q4]; exact Sp_endBr h3 q4
    · rw [if_neg q4] at hv ⊢
      have := jb_nz.mp hv
      rw [if_pos this]
      exact Sp_su h3 (by omega)
  rw [if_neg q3] at hv ⊢
  by_cases q5 : s 5 = 0
  · rw [if_pos q5] at hv ⊢
    have := jb_nz.mp hv
    rw [if_pos this]
    exact Sp_su h3 (by omega)
  · rw [if_neg q5] at hv ⊢
    rw [if_pos (jb_nz.mp hv)]
    exact Sp_stBl h1 h3 (jb_nz.mp hv)
theorem Sp_stm {s r : Nat → Int} (h3 : s 3 = 0) (hv : stmV s r ≠ 0) : Sp s (stmS s r) := by
  unfold stmV at hv
  unfold stmS
  by_cases q1 : s 10 = 1
  · rw [if_pos q1]; exact Sp_own h3 (by omega)
  rw [if_neg q1] at hv ⊢
  by_cases q2 : s 10 = 6
  · rw [if_pos q2]; exact Sp_own h3 (by omega)
  rw [if_neg q2] at hv ⊢
  by_cases q3 : s 10 = 3
  · rw [if_pos q3]; exact Sp_own h3 (by omega)
  rw [if_neg q3] at hv ⊢
  by_cases q4 : s 10 = 5
  · rw [if_pos q4]; exact Sp_own h3 (by omega)
  rw [if_neg q4] at hv ⊢
  by_cases q5 : s 10 = 4
  · rw [if_pos q5] at hv ⊢
    rw [if_pos (jb_nz.mp hv)]
    exact Sp_su h3 (by omega)
  rw [if_neg q5] at hv ⊢
  by_cases q6 : s 10 = 125
  · rw [if_pos q6] at hv ⊢
    exact Sp_endBl h3 q6 (jb_nz.mp hv)
  · rw [if_neg q6] at hv
    exact absurd rfl hv
theorem Sp_std {s r : Nat → Int} (h1 : 0 ≤ s 1 ∧ s 1 ≤ 6) (h3 : s 3 = 0) (hv : stdV s r ≠ 0) : Sp s (stdS s r) := by
  unfold stdV at hv
  unfold stdS
  by_cases q2 : s 4 = 2
  · rw [if_pos q2] at hv ⊢
    have := jb_nz.mp hv
    rw [if_pos this]
    exact Sp_su h3 (by omega)
  rw [if_neg q2] at hv ⊢
  by_cases q3 : s 4 = 3
  · rw [if_pos q3] at hv ⊢
    have := jb_nz.mp hv
    rw [if_pos this]
    exact Sp_su h3 (by omega)
  rw [if_neg q3] at hv ⊢
  by_cases q4 : s 4 = 4
  · rw [if_pos q4] at hv ⊢
    rw [if_pos (jb_nz.mp hv)]
    exact Sp_push h1 h3 (jb_nz.mp hv)
  rw [if_neg q4] at hv ⊢
  by_cases q5 : s 4 = 5
  · rw [if_pos q5] at hv ⊢
    by_cases q : s 10 = 41
    · rw [if_pos q]; exact Sp_endBr h3 q
    · rw [if_neg q] at hv ⊢; exact Sp_spt h1 h3 hv
  rw [if_neg q5] at hv ⊢
  by_cases q6 : s 4 = 6
  · rw [if_pos q6] at hv ⊢; exact Sp_spt h1 h3 hv
  rw [if_neg q6] at hv ⊢
  by_cases q7 : s 4 = 7
  · rw [if_pos q7] at hv ⊢; exact Sp_go h1 h3 hv
  rw [if_neg q7] at hv ⊢
  by_cases q8 : s 4 = 8
  · rw [if_pos q8] at hv ⊢
    have := jb_nz.mp hv
    rw [if_pos this]
    exact Sp_su h3 (by omega)
  rw [if_neg q8] at hv ⊢
  by_cases q9 : s 4 = 9
  · rw [if_pos q9] at hv ⊢
    rw [if_pos (jb_nz.mp hv)]
    exact Sp_stBl h1 h3 (jb_nz.mp hv)
  · rw [if_neg q9] at hv ⊢; exact Sp_stm h3 hv
end JRS
theorem jJ_mono {E : jE} {own : String} {cc : ByteArray} {nL : Nat} {rt : Option FieldType} {R : Room} {cs ss pc : Nat} {ls : List (Option jV)} {st : List jV} {I : jI} {P : jP} {Q Q' : Option jV → jI → jP → Prop} (k : jJ E own cc nL rt R (jZ E Q) cs ss pc ls st I P) (h : ∀ v I' P', Q v I' P' → Q' v I' P') : jJ E own cc nL rt R (jZ E Q') cs ss pc ls st I P := by
  intro p e s0 m0 args below meth c H locs la a1 a2 a3 a4 a5 a6 T0 hT0 X0
  obtain ⟨t, b1, o, h1, h2, ⟨⟨r, I', P', e1, e2, e3, e4⟩, h4⟩, h5⟩ := k p e s0 m0 args below meth c H locs la a1 a2 a3 a4 a5 a6 T0 hT0 X0
  exact ⟨t, b1, o, h1, h2, ⟨⟨r, I', P', e1, e2, h _ _ _ e3, e4⟩, h4⟩, h5⟩
section JRC
variable {E : jE} {I : jI} {P : jP} {d m n i j : Nat} {a : Nat → Nat} {s : Nat → Int} {ts : List T5} {fk fp : Int}
/-- the reference's numbers, by the reader's -/
def mS (g : Nat → Int) (n : Nat) (fk fp : Int) (s : Nat → Int) : Nat → Int := fun k => if k = 3 then fk else if k = 4 then fp else if k = 10 then s 6 else if k = 22 then s 9 else if k = 23 then (tkS g n (s 9).toNat : Int) else if k = 24 then (tkE g n (s 9).toNat : Int) - (tkS g n (s 9).toNat : Int) else if k = 25 then srt (tkG g n (s 9).toNat) else if k = 26 then s 1 else s 2
def wrF (s : Nat → Int) (k : Int) : Nat → Int := if s 3 = 0 then su (su s 3 k) 4 (s 23) else s
theorem r_wrR {k : Int} (hR : RfL E P m a) : jC E yX7_wrong cX7_wrong 2 (some .boolean) d [jp m, ji k] (rfM I m a s ts) P (jD (some (ji 0)) (rfM I m a (wrF s k) ts) P) := by
  refine jC_post (r_wrong hR) rfl ?_
  unfold wrM wrF
  rw [rfM_g3, rfM_g23]
  split
  · rw [rfM_p3, rfM_p4]
  · rfl
/-- a TOKEN is put to the others, and the next is looked at -/
theorem comes_b {st op dp bl : Int} {σ : Nat → Int} {G T L : Int} (hR : RfL E P m a) (hn : I (a 7) 12 = (n : Int)) (hn2 : n ≤ 800) (hg : ∀ k, k < n → 0 ≤ gB I a k ∧ gB I a k ≤ 255) (hl : ts.length < 200)
    (hj : j ≤ 800) (hG : G = tkG (gB I a) n j) (hT : T = (tkS (gB I a) n j : Int)) (hL : L = (tkE (gB I a) n j : Int) - (tkS (gB I a) n j : Int))
    (h23 : σ 23 = T) (h24 : σ 24 = L) (h25 : σ 25 = srt G) (h26 : σ 26 = dp) (h27 : σ 27 = bl) (hdp : -1000 ≤ dp ∧ dp ≤ 1000) (hbl : -1000 ≤ bl ∧ bl ≤ 1000) (hop : op = jb (G = 123 ∨ G = 40)) (hd : 5 ≤ d) {σ' : Nat → Int}
    (h3' : σ' 3 = σ 3) (h4' : σ' 4 = σ 4) (h10' : σ' 10 = σ 10) (h22' : σ' 22 = T + L) (h23' : σ' 23 = (tkS (gB I a) n (T + L).toNat : Int)) (h24' : σ' 24 = (tkE (gB I a) n (T + L).toNat : Int) - (tkS (gB I a) n (T + L).toNat : Int)) (h25' : σ' 25 = srt (tkG (gB I a) n (T + L).toNat)) (h26' : σ' 26 = dp + op) (h27' : σ' 27 = bl + jb (G = 123)) :
    jJ E yX7_comes.cls cX7_comes 4 (some .boolean) (jRm d) (jZ E (jD (some (ji 1)) (rfM I m a σ' (ts ++ [(T, T + L, G, bl, st)])) P)) 0 0 142 [some (jp m), some (ji st), some (ji op), none] [] (rfM I m a σ ts) P := by
  have e9 : ∀ s ts, rfM I m a s ts (a 9) ((12 : Int).toNat) = (ts.length : Int) := fun s ts => rfM_9 hR
  have hk := tk_le (f := gB I a) (i := j) hj hn2
  have n11 := hR.n11
  have n12 := hR.n12
  have n13 := hR.n13
  have n14 := hR.n14
  have n15 := hR.n15
  have x11 : a 9 ≠ a 11 := hR.d (by decide) (by decide) (by decide)
  have x12 : a 9 ≠ a 12 := hR.d (by decide) (by decide) (by decide)
  have x13 : a 9 ≠ a 13 := hR.d (by decide) (by decide) (by decide)
  have x14 : a 9 ≠ a 14 := hR.d (by decide) (by decide) (by decide)
  have x15 : a 9 ≠ a 15 := hR.d (by decide) (by decide) (by decide)
  have eo : op = 0 ∨ op = 1 := by rw [hop]; exact jb_01
  have fin : ∀ τ : Nat → Int, τ 3 = σ 3 → τ 4 = σ 4 → τ 10 = σ 10 → τ 23 = T → τ 24 = L → τ 26 = dp + op → τ 27 = bl + jb (G = 123) → jJ E yX7_comes.cls cX7_comes 4 (some .boolean) (jRm d) (jZ E (jD (some (ji 1)) (rfM I m a σ' (ts ++ [(T, T + L, G, bl, st)])) P)) 0 0 245 [some (jp m), some (ji st), some (ji op), some (ji (2412 + (ts.length : Int)))] [] (rfM I m a τ (ts ++ [(T, T + L, G, bl, st)])) P := by
    intro τ t3 t4 t10 t23 t24 t26 t27
    refine jJ_aload_n (pc := 245) dX7_comes_245 rfl ?_
    refine jJ_aload_n (pc := 246) dX7_comes_246 rfl ?_
    refine jJ_geti (pc := 247) dX7_comes_247 fX7_91 rfl hR.1 ?_
    try simp only [rfM_g23, rfM_g24, t23, t24, rfM_p22]
    refine jJ_aload_n (pc := 250) dX7_comes_250 rfl ?_
    refine jJ_geti (pc := 251) dX7_comes_251 fX7_98 rfl hR.1 ?_
    try simp only [rfM_g23, rfM_g24, t23, t24, rfM_p22]
    refine jJ_iadd (pc := 254) dX7_comes_254 ⟨by omega, by omega⟩ ?_
    refine jJ_puti (pc := 255) dX7_comes_255 fX7_88w rfl ⟨rfl, rfl⟩ hR.1 ?_
    try simp only [rfM_g23, rfM_g24, t23, t24, rfM_p22]
    refine jJ_aload_n (pc := 258) dX7_comes_258 rfl ?_
    refine jJ_callVd (pc := 259) (as := []) dX7_comes_259 mX7_163 (jRcv_of hR.1 rfl rfl) (Nat.le_of_ble_eq_true rfl) (jRm_ok (by omega) (by decide)) (r_look (d := d - 1) hR hn hn2 hg (by rw [su_s]; omega) (by omega)) ?_
    refine jJ_iconst (pc := 262) dX7_comes_262 (by decide) ?_
    refine jJ_zret (pc := 263) dX7_comes_263 rfl (Or.inr rfl) ?_
    refine ⟨rfl, rfM_cg (fun k hk => ?_), rfl⟩
    have q : k = 3 ∨ k = 4 ∨ k = 10 ∨ k = 22 ∨ k = 23 ∨ k = 24 ∨ k = 25 ∨ k = 26 ∨ k = 27 := by omega
    rcases q with rfl | rfl | rfl | rfl | rfl | rfl | rfl | rfl | rfl
    · exact t3.trans h3'.symm
    · exact t4.trans h4'.symm
    · exact t10.trans h10'.symm
    · exact h22'.symm
    · exact h23'.symm
    · exact h24'.symm
    · exact h25'.symm
    · exact t26.trans h26'.symm
    · exact t27.trans h27'.symm
  have fin2 : ∀ τ : Nat → Int, τ 3 = σ 3 → τ 4 = σ 4 → τ 10 = σ 10 → τ 23 = T → τ 24 = L → τ 26 = dp → τ 27 = bl + jb (G = 123) → jJ E yX7_comes.cls cX7_comes 4 (some .boolean) (jRm d) (jZ E (jD (some (ji 1)) (rfM I m a σ' (ts ++ [(T, T + L, G, bl, st)])) P)) 0 0 231 [some (jp m), some (ji st), some (ji op), some (ji (2412 + (ts.length : Int)))] [] (rfM I m a τ (ts ++ [(T, T + L, G, bl, st)])) P := by
    intro τ t3 t4 t10 t23 t24 t26 t27
    refine jJ_iload_n (pc := 231) dX7_comes_231 rfl ?_
    refine jJ_if_eq (pc := 232) (tgt := 245) dX7_comes_232 (by decide) (fun c232 => ?_) (fun c232 => ?_)
    · exact fin τ t3 t4 t10 t23 t24 (by omega) t27
    · refine jJ_aload_n (pc := 235) dX7_comes_235 rfl ?_
      refine jJ_dup (pc := 236) dX7_comes_236 rfl ?_
      refine jJ_geti (pc := 237) dX7_comes_237 fX7_153 rfl hR.1 ?_
      try simp only [rfM_g26, rfM_p26, t26]
      refine jJ_iconst (pc := 240) dX7_comes_240 (by decide) ?_
      refine jJ_iadd (pc := 241) dX7_comes_241 ⟨by omega, by omega⟩ ?_
      refine jJ_puti (pc := 242) dX7_comes_242 fX7_153w rfl ⟨rfl, rfl⟩ hR.1 ?_
      try simp only [rfM_g26, rfM_p26, t26]
      exact fin _ t3 t4 t10 t23 t24 (by rw [su_s]; omega) t27
  refine jJ_sipush (pc := 142) dX7_comes_142 (by decide) ?_
  refine jJ_aload_n (pc := 145) dX7_comes_145 rfl ?_
  refine jJ_getr (pc := 146) dX7_comes_146 fX7_30 rfl hR.1 hR.p9 ?_
  try simp only [e9]
  refine jJ_bipush (pc := 149) dX7_comes_149 (by decide) ?_
  refine jJ_iald (pc := 151) dX7_comes_151 hR.a9 ⟨by omega, by omega⟩ ?_
  try simp only [e9]
  refine jJ_iadd (pc := 152) dX7_comes_152 ⟨by omega, by omega⟩ ?_
  refine jJ_istore_n (pc := 153) (ls' := [_, _, _, _]) dX7_comes_153 (Nat.le_of_ble_eq_true rfl) rfl ?_
  refine jJ_aload_n (pc := 154) dX7_comes_154 rfl ?_
  refine jJ_getr (pc := 155) dX7_comes_155 fX7_36 rfl hR.1 hR.p11 ?_
  try simp only [rfM_g23, h23]
  refine jJ_iload_n (pc := 158) dX7_comes_158 rfl ?_
  refine jJ_aload_n (pc := 159) dX7_comes_159 rfl ?_
  refine jJ_geti (pc := 160) dX7_comes_160 fX7_91 rfl hR.1 ?_
  try simp only [rfM_g23, h23]
  refine jJ_iast (pc := 163) dX7_comes_163 hR.a11 ⟨by omega, by omega⟩ ?_
  try simp only [rfM_g23, h23]
  refine jJ_aload_n (pc := 164) dX7_comes_164 rfl ?_
  refine jJ_getr (pc := 165) dX7_comes_165 fX7_39 rfl hR.1 hR.p12 ?_
  try simp only [jput_a _ (Ne.symm n11), rfM_g24, h24]
  refine jJ_iload_n (pc := 168) dX7_comes_168 rfl ?_
  refine jJ_aload_n (pc := 169) dX7_comes_169 rfl ?_
  refine jJ_geti (pc := 170) dX7_comes_170 fX7_98 rfl hR.1 ?_
  try simp only [jput_a _ (Ne.symm n11), rfM_g24, h24]
  refine jJ_iast (pc := 173) dX7_comes_173 hR.a12 ⟨by omega, by omega⟩ ?_
  try simp only [jput_a _ (Ne.symm n11), rfM_g24, h24]
  refine jJ_aload_n (pc := 174) dX7_comes_174 rfl ?_
  refine jJ_getr (pc := 175) dX7_comes_175 fX7_42 rfl hR.1 hR.p13 ?_
  try simp only [jput_a _ (Ne.symm n11), jput_a _ (Ne.symm n12), rfM_g25, h25]
  refine jJ_iload_n (pc := 178) dX7_comes_178 rfl ?_
  refine jJ_aload_n (pc := 179) dX7_comes_179 rfl ?_
  refine jJ_geti (pc := 180) dX7_comes_180 fX7_101 rfl hR.1 ?_
  try simp only [jput_a _ (Ne.symm n11), jput_a _ (Ne.symm n12), rfM_g25, h25]
  refine jJ_iast (pc := 183) dX7_comes_183 hR.a13 ⟨by omega, by omega⟩ ?_
  try simp only [jput_a _ (Ne.symm n11), jput_a _ (Ne.symm n12), rfM_g25, h25]
  refine jJ_aload_n (pc := 184) dX7_comes_184 rfl ?_
  refine jJ_getr (pc := 185) dX7_comes_185 fX7_45 rfl hR.1 hR.p14 ?_
  try simp only [jput_a _ (Ne.symm n11), jput_a _ (Ne.symm n12), jput_a _ (Ne.symm n13), rfM_g27, h27]
  refine jJ_iload_n (pc := 188) dX7_comes_188 rfl ?_
  refine jJ_aload_n (pc := 189) dX7_comes_189 rfl ?_
  refine jJ_geti (pc := 190) dX7_comes_190 fX7_158 rfl hR.1 ?_
  try simp only [jput_a _ (Ne.symm n11), jput_a _ (Ne.symm n12), jput_a _ (Ne.symm n13), rfM_g27, h27]
  refine jJ_iast (pc := 193) dX7_comes_193 hR.a14 ⟨by omega, by omega⟩ ?_
  try simp only [jput_a _ (Ne.symm n11), jput_a _ (Ne.symm n12), jput_a _ (Ne.symm n13), rfM_g27, h27]
  refine jJ_aload_n (pc := 194) dX7_comes_194 rfl ?_
  refine jJ_getr (pc := 195) dX7_comes_195 fX7_48 rfl hR.1 hR.p15 ?_
  refine jJ_iload_n (pc := 198) dX7_comes_198 rfl ?_
  refine jJ_iload_n (pc := 199) dX7_comes_199 rfl ?_
  refine jJ_iast (pc := 200) dX7_comes_200 hR.a15 ⟨by omega, by omega⟩ ?_
  refine jJ_aload_n (pc := 201) dX7_comes_201 rfl ?_
  refine jJ_getr (pc := 202) dX7_comes_202 fX7_30 rfl hR.1 hR.p9 ?_
  try simp only [jput_a _ x11, jput_a _ x12, jput_a _ x13, jput_a _ x14, jput_a _ x15, e9]
  refine jJ_bipush (pc := 205) dX7_comes_205 (by decide) ?_
  refine jJ_dup2 (pc := 207) dX7_comes_207 rfl rfl ?_
  refine jJ_iald (pc := 208) dX7_comes_208 hR.a9 ⟨by omega, by omega⟩ ?_
  try simp only [jput_a _ x11, jput_a _ x12, jput_a _ x13, jput_a _ x14, jput_a _ x15, e9]
  refine jJ_iconst (pc := 209) dX7_comes_209 (by decide) ?_
  refine jJ_iadd (pc := 210) dX7_comes_210 ⟨by omega, by omega⟩ ?_
  refine jJ_iast (pc := 211) dX7_comes_211 hR.a9 ⟨by omega, by omega⟩ ?_
  try simp only [jput_a _ x11, jput_a _ x12, jput_a _ x13, jput_a _ x14, jput_a _ x15, e9]
  have ea := rfM_add (E := E) (P := P) (I := I) (s := σ) (ts := ts) (t := (T, T + L, G, bl, st)) hR
  rw [show T + L - T = L by omega] at ea
  rw [show (2412 + (ts.length : Int)).toNat = 2412 + ts.length by omega]
  refine jJ_I (show _ = rfM I m a σ (ts ++ [(T, T + L, G, bl, st)]) from ea) ?_
  refine jJ_aload_n (pc := 212) dX7_comes_212 rfl ?_
  refine jJ_ldcS (pc := 213) (i := 5) dX7_comes_213 (by decide +kernel) ?_
  refine jJ_callVd (pc := 215) (as := [_]) dX7_comes_215 mX7_132 (jRcv_of hR.1 rfl rfl) (Nat.le_of_ble_eq_true rfl) (jRm_ok (by omega) (by decide)) (r_isT (d := d - 1) (c := 123) (j := j) hR hn hn2 (by decide) (by decide) rfl (by rw [h23, hT]) (by rw [h24, hL]) (by omega)) ?_
  rw [← hG]
  refine jJ_if_eq (pc := 218) (tgt := 231) dX7_comes_218 (by decide) (fun c218 => ?_) (fun c218 => ?_)
  · refine fin2 σ rfl rfl rfl h23 h24 h26 ?_
    omega
  · refine jJ_aload_n (pc := 221) dX7_comes_221 rfl ?_
    refine jJ_dup (pc := 222) dX7_comes_222 rfl ?_
    refine jJ_geti (pc := 223) dX7_comes_223 fX7_158 rfl hR.1 ?_
    try simp only [rfM_g27, rfM_p27, h27]
    refine jJ_iconst (pc := 226) dX7_comes_226 (by decide) ?_
    refine jJ_iadd (pc := 227) dX7_comes_227 ⟨by omega, by omega⟩ ?_
    refine jJ_puti (pc := 228) dX7_comes_228 fX7_158w rfl ⟨rfl, rfl⟩ hR.1 ?_
    try simp only [rfM_g27, rfM_p27, h27]
    refine fin2 _ rfl rfl rfl h23 h24 h26 ?_
    have := jb_01 (p := G = 123)
    rw [su_s]
    omega
theorem r_comes {st : Int} {s1 : Nat → Int} (hR : RfL E P m a) (hn : I (a 7) 12 = (n : Int)) (hn2 : n ≤ 800) (hg : ∀ k, k < n → 0 ≤ gB I a k ∧ gB I a k ≤ 255) (h9 : 0 ≤ s 9 ∧ s 9 ≤ 800) (h1 : 0 ≤ s 1 ∧ s 1 ≤ 6) (h2 : -900 ≤ s 2 ∧ s 2 ≤ 900) (hl : ts.length ≤ 200) (hS : Sp (scS (gB I a) n s) s1) (h8' : s1 8 = (tkS (gB I a) n (s 9).toNat : Int)) (h9' : s1 9 = (tkE (gB I a) n (s 9).toNat : Int)) (h10' : s1 10 = tkG (gB I a) n (s 9).toNat) (hst : s1 5 = st) (hd : 6 ≤ d) :
    jC E yX7_comes cX7_comes 4 (some .boolean) d [jp m, ji st] (rfM I m a (su (mS (gB I a) n fk fp s) 10 (s1 6)) ts) P (fun v I' P' => P' = P ∧ ((v = some (ji 1) ∧ tooB ts.length s1 = false ∧ I' = rfM I m a (mS (gB I a) n fk fp s1) (ts ++ [tokOf s1])) ∨ (v = some (ji 0) ∧ tooB ts.length s1 = true ∧ I' = rfM I m a (wrF (su (mS (gB I a) n fk fp s) 10 (s1 6)) 2) ts))) := by
  have e9 : ∀ s ts, rfM I m a s ts (a 9) ((12 : Int).toNat) = (ts.length : Int) := fun s ts => rfM_9 hR
  have q0 := srt_0 (x := tkG (gB I a) n (s 9).toNat)
  have q1 := srt_1 (x := tkG (gB I a) n (s 9).toNat)
  have hk := tk_le (f := gB I a) (i := (s 9).toNat) (by omega) hn2
  have qk := kw_len (g := gB I a) (j := (s 9).toNat) hn2
  obtain ⟨p2, p1, p3⟩ := hS
  rw [scS_10, scS_v _ _ _ (by decide) (by decide) (by decide)] at p1 p2 p3
  have m24 : su (mS (gB I a) n fk fp s) 10 (s1 6) 24 = (tkE (gB I a) n (s 9).toNat : Int) - (tkS (gB I a) n (s 9).toNat : Int) := rfl
  have m23 : su (mS (gB I a) n fk fp s) 10 (s1 6) 23 = (tkS (gB I a) n (s 9).toNat : Int) := rfl
  have m25 : su (mS (gB I a) n fk fp s) 10 (s1 6) 25 = srt (tkG (gB I a) n (s 9).toNat) := rfl
  have m26 : su (mS (gB I a) n fk fp s) 10 (s1 6) 26 = s 1 := rfl
  have m27 : su (mS (gB I a) n fk fp s) 10 (s1 6) 27 = s 2 := rfl
  generalize hσ : su (mS (gB I a) n fk fp s) 10 (s1 6) = σ at *
  have htoo : tooB ts.length s1 = true ↔ (200 ≤ (ts.length : Int) ∨ s1 3 ≠ 0 ∨ (s1 10 = 1 ∧ 16 < s1 9 - s1 8) ∨ (s1 10 = 2 ∧ 6 < s1 9 - s1 8)) := by unfold tooB; exact decide_eq_true_iff
  have too : (200 ≤ (ts.length : Int) ∨ s1 3 ≠ 0 ∨ (s1 10 = 1 ∧ 16 < s1 9 - s1 8) ∨ (s1 10 = 2 ∧ 6 < s1 9 - s1 8)) → jJ E yX7_comes.cls cX7_comes 4 (some .boolean) (jRm d) (jZ E (fun v I' P' => P' = P ∧ ((v = some (ji 1) ∧ tooB ts.length s1 = false ∧ I' = rfM I m a (mS (gB I a) n fk fp s1) (ts ++ [tokOf s1])) ∨ (v = some (ji 0) ∧ tooB ts.length s1 = true ∧ I' = rfM I m a (wrF σ 2) ts)))) 0 0 46 [some (jp m), some (ji st), none, none] [] (rfM I m a σ ts) P := by
    intro ht
    refine jJ_aload_n (pc := 46) dX7_comes_46 rfl ?_
    refine jJ_iconst (pc := 47) dX7_comes_47 (by decide) ?_
    refine jJ_callVd (pc := 48) (as := [_]) dX7_comes_48 mX7_146 (jRcv_of hR.1 rfl rfl) (Nat.le_of_ble_eq_true rfl) (jRm_ok (by omega) (by decide)) (r_wrR (d := d - 1) hR) ?_
    refine jJ_zret (pc := 51) dX7_comes_51 rfl (Or.inl rfl) ?_
    exact ⟨rfl, Or.inr ⟨rfl, htoo.mpr ht, rfl⟩⟩
  have too2 : ∀ z : Option jV, (200 ≤ (ts.length : Int) ∨ s1 3 ≠ 0 ∨ (s1 10 = 1 ∧ 16 < s1 9 - s1 8) ∨ (s1 10 = 2 ∧ 6 < s1 9 - s1 8)) → jJ E yX7_comes.cls cX7_comes 4 (some .boolean) (jRm d) (jZ E (fun v I' P' => P' = P ∧ ((v = some (ji 1) ∧ tooB ts.length s1 = false ∧ I' = rfM I m a (mS (gB I a) n fk fp s1) (ts ++ [tokOf s1])) ∨ (v = some (ji 0) ∧ tooB ts.length s1 = true ∧ I' = rfM I m a (wrF σ 2) ts)))) 0 0 89 [some (jp m), some (ji st), z, none] [] (rfM I m a σ ts) P := by
    intro z ht
    refine jJ_aload_n (pc := 89) dX7_comes_89 rfl ?_
    refine jJ_iconst (pc := 90) dX7_comes_90 (by decide) ?_
    refine jJ_callVd (pc := 91) (as := [_]) dX7_comes_91 mX7_146 (jRcv_of hR.1 rfl rfl) (Nat.le_of_ble_eq_true rfl) (jRm_ok (by omega) (by decide)) (r_wrR (d := d - 1) hR) ?_
    refine jJ_zret (pc := 94) dX7_comes_94 rfl (Or.inl rfl) ?_
    exact ⟨rfl, Or.inr ⟨rfl, htoo.mpr ht, rfl⟩⟩
  have good : ∀ (op : Int) (τ : Nat → Int), op = jb (tkG (gB I a) n (s 9).toNat = 123 ∨ tkG (gB I a) n (s 9).toNat = 40) → ¬ (200 ≤ (ts.length : Int) ∨ s1 3 ≠ 0 ∨ (s1 10 = 1 ∧ 16 < s1 9 - s1 8) ∨ (s1 10 = 2 ∧ 6 < s1 9 - s1 8)) → τ 3 = σ 3 → τ 4 = σ 4 → τ 10 = σ 10 → τ 23 = σ 23 → τ 24 = σ 24 → τ 25 = σ 25 → τ 26 = s 1 - (if tkG (gB I a) n (s 9).toNat = 125 ∨ tkG (gB I a) n (s 9).toNat = 41 then 1 else 0) → τ 27 = s 2 - (if tkG (gB I a) n (s 9).toNat = 125 then 1 else 0) → jJ E yX7_comes.cls cX7_comes 4 (some .boolean) (jRm d) (jZ E (fun v I' P' => P' = P ∧ ((v = some (ji 1) ∧ tooB ts.length s1 = false ∧ I' = rfM I m a (mS (gB I a) n fk fp s1) (ts ++ [tokOf s1])) ∨ (v = some (ji 0) ∧ tooB ts.length s1 = true ∧ I' = rfM I m a (wrF σ 2) ts)))) 0 0 142 [some (jp m), some (ji st), some (ji op), none] [] (rfM I m a τ ts) P := by
    intro op τ hop ht t3 t4 t10 t23 t24 t25 t26 t27
    have hf : tooB ts.length s1 = false := by
      cases hq : tooB ts.length s1 with
      | false => rfl
      | true => exact absurd (htoo.mp hq) ht
    have eTL : (tkS (gB I a) n (s 9).toNat : Int) + ((tkE (gB I a) n (s 9).toNat : Int) - (tkS (gB I a) n (s 9).toNat : Int)) = s1 9 := by omega
    have k := comes_b (E := E) (P := P) (I := I) (d := d) (st := st) (op := op) (dp := τ 26) (bl := τ 27) (σ := τ) (σ' := mS (gB I a) n fk fp s1) (ts := ts) (j := (s 9).toNat) hR hn hn2 hg (by omega) (by omega) rfl rfl rfl (t23.trans m23) (t24.trans m24) (t25.trans m25) rfl rfl (by rw [t26]; split <;> omega) (by rw [t27]; split <;> omega) hop (by omega) (by rw [t3, ← hσ]; rfl) (by rw [t4, ← hσ]; rfl) (by rw [t10, ← hσ]; rfl) (by rw [eTL]; rfl) (by rw [eTL]; rfl) (by rw [eTL]; rfl) (by rw [eTL]; rfl) ?_ ?_
    · have et : ((tkS (gB I a) n (s 9).toNat : Int), (tkS (gB I a) n (s 9).toNat : Int) + ((tkE (gB I a) n (s 9).toNat : Int) - (tkS (gB I a) n (s 9).toNat : Int)), tkG (gB I a) n (s 9).toNat, τ 27, st) = tokOf s1 := by
        unfold tokOf
        rw [eTL, h8', h10', hst, t27, p2]
        congr 3
        congr 1
        split <;> (split <;> omega)
      rw [et] at k
      exact jJ_mono k (fun v I' P' hq => by obtain ⟨rfl, rfl, rfl⟩ := hq; exact ⟨rfl, Or.inl ⟨rfl, hf, rfl⟩⟩)
    · show s1 1 = τ 26 + op
      rw [t26, hop]
      by_cases qo : tkG (gB I a) n (s 9).toNat = 123 ∨ tkG (gB I a) n (s 9).toNat = 40
      · rw [← jb_t qo, if_neg (by omega)]
        have := p1 qo
        omega
      · rw [← jb_f qo]
        have := p3 qo
        omega
    · show s1 2 = τ 27 + jb (tkG (gB I a) n (s 9).toNat = 123)
      rw [t27, p2]
      by_cases qo : tkG (gB I a) n (s 9).toNat = 123
      · rw [← jb_t qo, if_pos qo]; omega
      · rw [← jb_f qo, if_neg qo]; omega
  have hq9 := tk_in (g := gB I a) (n := n) (j := (s 9).toNat)
  generalize hG : tkG (gB I a) n (s 9).toNat = G at *
  have s114 : ∀ (op : Int) (τ : Nat → Int), op = jb (G = 123 ∨ G = 40) → ¬ (200 ≤ (ts.length : Int) ∨ s1 3 ≠ 0 ∨ (s1 10 = 1 ∧ 16 < s1 9 - s1 8) ∨ (s1 10 = 2 ∧ 6 < s1 9 - s1 8)) → τ 3 = σ 3 → τ 4 = σ 4 → τ 10 = σ 10 → τ 23 = σ 23 → τ 24 = σ 24 → τ 25 = σ 25 → τ 26 = s 1 → τ 27 = s 2 - (if G = 125 then 1 else 0) → jJ E yX7_comes.cls cX7_comes 4 (some .boolean) (jRm d) (jZ E (fun v I' P' => P' = P ∧ ((v = some (ji 1) ∧ tooB ts.length s1 = false ∧ I' = rfM I m a (mS (gB I a) n fk fp s1) (ts ++ [tokOf s1])) ∨ (v = some (ji 0) ∧ tooB ts.length s1 = true ∧ I' = rfM I m a (wrF σ 2) ts)))) 0 0 114 [some (jp m), some (ji st), some (ji op), none] [] (rfM I m a τ ts) P := by
    intro op τ hop ht t3 t4 t10 t23 t24 t25 t26 t27
    have dec : G = 125 ∨ G = 41 → jJ E yX7_comes.cls cX7_comes 4 (some .boolean) (jRm d) (jZ E (fun v I' P' => P' = P ∧ ((v = some (ji 1) ∧ tooB ts.length s1 = false ∧ I' = rfM I m a (mS (gB I a) n fk fp s1) (ts ++ [tokOf s1])) ∨ (v = some (ji 0) ∧ tooB ts.length s1 = true ∧ I' = rfM I m a (wrF σ 2) ts)))) 0 0 132 [some (jp m), some (ji st), some (ji op), none] [] (rfM I m a τ ts) P := by
      intro hc
      refine jJ_aload_n (pc := 132) dX7_comes_132 rfl ?_
      refine jJ_dup (pc := 133) dX7_comes_133 rfl ?_
      refine jJ_geti (pc := 134) dX7_comes_134 fX7_153 rfl hR.1 ?_
      try simp only [rfM_g26, rfM_p26, t26]
      refine jJ_iconst (pc := 137) dX7_comes_137 (by decide) ?_
      refine jJ_isub (pc := 138) dX7_comes_138 ⟨by omega, by omega⟩ ?_
      refine jJ_puti (pc := 139) dX7_comes_139 fX7_153w rfl ⟨rfl, rfl⟩ hR.1 ?_
      try simp only [rfM_g26, rfM_p26, t26]
      exact good op _ hop ht t3 t4 t10 t23 t24 t25 (by rw [su_s, if_pos hc]) t27
    refine jJ_aload_n (pc := 114) dX7_comes_114 rfl ?_
    refine jJ_ldcS (pc := 115) (i := 7) dX7_comes_115 (by decide +kernel) ?_
    refine jJ_callVd (pc := 117) (as := [_]) dX7_comes_117 mX7_132 (jRcv_of hR.1 rfl rfl) (Nat.le_of_ble_eq_true rfl) (jRm_ok (by omega) (by decide)) (r_isT (d := d - 1) (c := 125) (j := (s 9).toNat) hR hn hn2 (by decide) (by decide) rfl (by rw [t23, m23]) (by rw [t24, m24]) (by omega)) ?_
    rw [hG]
    refine jJ_if_ne (pc := 120) (tgt := 132) dX7_comes_120 (by decide) (fun c120 => ?_) (fun c120 => ?_)
    · simp only [jb_nz] at c120
      exact dec (Or.inl c120)
    · simp only [jb_z] at c120
      refine jJ_aload_n (pc := 123) dX7_comes_123 rfl ?_
      refine jJ_ldcS (pc := 124) (i := 8) dX7_comes_124 (by decide +kernel) ?_
      refine jJ_callVd (pc := 126) (as := [_]) dX7_comes_126 mX7_132 (jRcv_of hR.1 rfl rfl) (Nat.le_of_ble_eq_true rfl) (jRm_ok (by omega) (by decide)) (r_isT (d := d - 1) (c := 41) (j := (s 9).toNat) hR hn hn2 (by decide) (by decide) rfl (by rw [t23, m23]) (by rw [t24, m24]) (by omega)) ?_
      rw [hG]
      refine jJ_if_eq (pc := 129) (tgt := 142) dX7_comes_129 (by decide) (fun c129 => ?_) (fun c129 => ?_)
      · simp only [jb_z] at c129
        exact good op _ hop ht t3 t4 t10 t23 t24 t25 (by rw [t26, if_neg (by omega)]; omega) t27
      · simp only [jb_nz] at c129
        exact dec (Or.inr c129)
  have s95 : ∀ (op : Int), op = jb (G = 123 ∨ G = 40) → ¬ (200 ≤ (ts.length : Int) ∨ s1 3 ≠ 0 ∨ (s1 10 = 1 ∧ 16 < s1 9 - s1 8) ∨ (s1 10 = 2 ∧ 6 < s1 9 - s1 8)) → jJ E yX7_comes.cls cX7_comes 4 (some .boolean) (jRm d) (jZ E (fun v I' P' => P' = P ∧ ((v = some (ji 1) ∧ tooB ts.length s1 = false ∧ I' = rfM I m a (mS (gB I a) n fk fp s1) (ts ++ [tokOf s1])) ∨ (v = some (ji 0) ∧ tooB ts.length s1 = true ∧ I' = rfM I m a (wrF σ 2) ts)))) 0 0 95 [some (jp m), some (ji st), some (ji op), none] [] (rfM I m a σ ts) P := by
    intro op hop ht
    refine jJ_aload_n (pc := 95) dX7_comes_95 rfl ?_
    refine jJ_ldcS (pc := 96) (i := 7) dX7_comes_96 (by decide +kernel) ?_
    refine jJ_callVd (pc := 98) (as := [_]) dX7_comes_98 mX7_132 (jRcv_of hR.1 rfl rfl) (Nat.le_of_ble_eq_true rfl) (jRm_ok (by omega) (by decide)) (r_isT (d := d - 1) (c := 125) (j := (s 9).toNat) hR hn hn2 (by decide) (by decide) rfl m23 m24 (by omega)) ?_
    rw [hG]
    refine jJ_if_eq (pc := 101) (tgt := 114) dX7_comes_101 (by decide) (fun c101 => ?_) (fun c101 => ?_)
    · simp only [jb_z] at c101
      exact s114 op σ hop ht rfl rfl rfl rfl rfl rfl m26 (by rw [m27, if_neg c101]; omega)
    · simp only [jb_nz] at c101
      refine jJ_aload_n (pc := 104) dX7_comes_104 rfl ?_
      refine jJ_dup (pc := 105) dX7_comes_105 rfl ?_
      refine jJ_geti (pc := 106) dX7_comes_106 fX7_158 rfl hR.1 ?_
      try simp only [rfM_g27, rfM_p27, m27]
      refine jJ_iconst (pc := 109) dX7_comes_109 (by decide) ?_
      refine jJ_isub (pc := 110) dX7_comes_110 ⟨by omega, by omega⟩ ?_
      refine jJ_puti (pc := 111) dX7_comes_111 fX7_158w rfl ⟨rfl, rfl⟩ hR.1 ?_
      try simp only [rfM_g27, rfM_p27, m27]
      exact s114 op _ hop ht rfl rfl rfl rfl rfl rfl m26 (by rw [su_s, if_pos c101])
  have s76 : ∀ (op : Int), op = jb (G = 123 ∨ G = 40) → ¬ (200 ≤ (ts.length : Int) ∨ (s1 10 = 1 ∧ 16 < s1 9 - s1 8) ∨ (s1 10 = 2 ∧ 6 < s1 9 - s1 8)) → jJ E yX7_comes.cls cX7_comes 4 (some .boolean) (jRm d) (jZ E (fun v I' P' => P' = P ∧ ((v = some (ji 1) ∧ tooB ts.length s1 = false ∧ I' = rfM I m a (mS (gB I a) n fk fp s1) (ts ++ [tokOf s1])) ∨ (v = some (ji 0) ∧ tooB ts.length s1 = true ∧ I' = rfM I m a (wrF σ 2) ts)))) 0 0 76 [some (jp m), some (ji st), some (ji op), none] [] (rfM I m a σ ts) P := by
    intro op hop ht
    refine jJ_iload_n (pc := 76) dX7_comes_76 rfl ?_
    refine jJ_if_eq (pc := 77) (tgt := 95) dX7_comes_77 (by decide) (fun c77 => ?_) (fun c77 => ?_)
    · have q := jb_z.mp (hop.symm.trans c77)
      have := p3 q
      exact s95 op hop (by omega)
    · have q := jb_nz.mp (show jb (G = 123 ∨ G = 40) ≠ 0 by rw [← hop]; exact c77)
      have := p1 q
      refine jJ_aload_n (pc := 80) dX7_comes_80 rfl ?_
      refine jJ_geti (pc := 81) dX7_comes_81 fX7_153 rfl hR.1 ?_
      try simp only [rfM_g26, m26]
      refine jJ_bipush (pc := 84) dX7_comes_84 (by decide) ?_
      refine jJ_icmp_ne (pc := 86) (tgt := 95) dX7_comes_86 (by decide) (fun c86 => ?_) (fun c86 => ?_)
      · exact s95 op hop (by omega)
      · exact too2 _ (Or.inr (Or.inl (this.2 (by omega))))
  have s52 : ¬ (200 ≤ (ts.length : Int) ∨ (s1 10 = 1 ∧ 16 < s1 9 - s1 8) ∨ (s1 10 = 2 ∧ 6 < s1 9 - s1 8)) → jJ E yX7_comes.cls cX7_comes 4 (some .boolean) (jRm d) (jZ E (fun v I' P' => P' = P ∧ ((v = some (ji 1) ∧ tooB ts.length s1 = false ∧ I' = rfM I m a (mS (gB I a) n fk fp s1) (ts ++ [tokOf s1])) ∨ (v = some (ji 0) ∧ tooB ts.length s1 = true ∧ I' = rfM I m a (wrF σ 2) ts)))) 0 0 52 [some (jp m), some (ji st), none, none] [] (rfM I m a σ ts) P := by
    intro ht
    refine jJ_aload_n (pc := 52) dX7_comes_52 rfl ?_
    refine jJ_ldcS (pc := 53) (i := 5) dX7_comes_53 (by decide +kernel) ?_
    refine jJ_callVd (pc := 55) (as := [_]) dX7_comes_55 mX7_132 (jRcv_of hR.1 rfl rfl) (Nat.le_of_ble_eq_true rfl) (jRm_ok (by omega) (by decide)) (r_isT (d := d - 1) (c := 123) (j := (s 9).toNat) hR hn hn2 (by decide) (by decide) rfl m23 m24 (by omega)) ?_
    rw [hG]
    refine jJ_if_ne (pc := 58) (tgt := 70) dX7_comes_58 (by decide) (fun c58 => ?_) (fun c58 => ?_)
    · simp only [jb_nz] at c58
      refine jJ_iconst (pc := 70) dX7_comes_70 (by decide) ?_
      refine jJ_goto (pc := 71) (tgt := 75) dX7_comes_71 (by decide) ?_
      refine jJ_istore_n (pc := 75) (ls' := [_, _, _, _]) dX7_comes_75 (Nat.le_of_ble_eq_true rfl) rfl ?_
      exact s76 1 (jb_t (Or.inl c58)) ht
    · simp only [jb_z] at c58
      refine jJ_aload_n (pc := 61) dX7_comes_61 rfl ?_
      refine jJ_ldcS (pc := 62) (i := 6) dX7_comes_62 (by decide +kernel) ?_
      refine jJ_callVd (pc := 64) (as := [_]) dX7_comes_64 mX7_132 (jRcv_of hR.1 rfl rfl) (Nat.le_of_ble_eq_true rfl) (jRm_ok (by omega) (by decide)) (r_isT (d := d - 1) (c := 40) (j := (s 9).toNat) hR hn hn2 (by decide) (by decide) rfl m23 m24 (by omega)) ?_
      rw [hG]
      refine jJ_if_eq (pc := 67) (tgt := 74) dX7_comes_67 (by decide) (fun c67 => ?_) (fun c67 => ?_)
      · simp only [jb_z] at c67
        refine jJ_iconst (pc := 74) dX7_comes_74 (by decide) ?_
        refine jJ_istore_n (pc := 75) (ls' := [_, _, _, _]) dX7_comes_75 (Nat.le_of_ble_eq_true rfl) rfl ?_
        exact s76 0 (jb_f (by omega)) ht
      · simp only [jb_nz] at c67
        refine jJ_iconst (pc := 70) dX7_comes_70 (by decide) ?_
        refine jJ_goto (pc := 71) (tgt := 75) dX7_comes_71 (by decide) ?_
        refine jJ_istore_n (pc := 75) (ls' := [_, _, _, _]) dX7_comes_75 (Nat.le_of_ble_eq_true rfl) rfl ?_
        exact s76 1 (jb_t (Or.inr c67)) ht
  have s29 : ¬ (200 ≤ (ts.length : Int) ∨ (s1 10 = 1 ∧ 16 < s1 9 - s1 8)) → jJ E yX7_comes.cls cX7_comes 4 (some .boolean) (jRm d) (jZ E (fun v I' P' => P' = P ∧ ((v = some (ji 1) ∧ tooB ts.length s1 = false ∧ I' = rfM I m a (mS (gB I a) n fk fp s1) (ts ++ [tokOf s1])) ∨ (v = some (ji 0) ∧ tooB ts.length s1 = true ∧ I' = rfM I m a (wrF σ 2) ts)))) 0 0 29 [some (jp m), some (ji st), none, none] [] (rfM I m a σ ts) P := by
    intro ht
    refine jJ_aload_n (pc := 29) dX7_comes_29 rfl ?_
    refine jJ_geti (pc := 30) dX7_comes_30 fX7_101 rfl hR.1 ?_
    try simp only [rfM_g25, m25]
    refine jJ_iconst (pc := 33) dX7_comes_33 (by decide) ?_
    refine jJ_icmp_ne (pc := 34) (tgt := 52) dX7_comes_34 (by decide) (fun c34 => ?_) (fun c34 => ?_)
    · exact s52 (by omega)
    · refine jJ_aload_n (pc := 37) dX7_comes_37 rfl ?_
      refine jJ_geti (pc := 38) dX7_comes_38 fX7_98 rfl hR.1 ?_
      try simp only [rfM_g24, m24]
      refine jJ_bipush (pc := 41) dX7_comes_41 (by decide) ?_
      refine jJ_icmp_le (pc := 43) (tgt := 52) dX7_comes_43 (by decide) (fun c43 => ?_) (fun c43 => ?_)
      · exact s52 (by omega)
      · exact too (by omega)
  refine jC_intro (by decide +kernel) (by simp [jc, va_rf, Value.category]) (Nat.le_of_ble_eq_true rfl) ?_
  refine jJ_aload_n (pc := 0) dX7_comes_0 rfl ?_
  refine jJ_getr (pc := 1) dX7_comes_1 fX7_30 rfl hR.1 hR.p9 ?_
  try simp only [e9]
  refine jJ_bipush (pc := 4) dX7_comes_4 (by decide) ?_
  refine jJ_iald (pc := 6) dX7_comes_6 hR.a9 ⟨by omega, by omega⟩ ?_
  try simp only [e9]
  refine jJ_sipush (pc := 7) dX7_comes_7 (by decide) ?_
  refine jJ_icmp_eq (pc := 10) (tgt := 46) dX7_comes_10 (by decide) (fun c10 => ?_) (fun c10 => ?_)
  · exact too (by omega)
  · refine jJ_aload_n (pc := 13) dX7_comes_13 rfl ?_
    refine jJ_geti (pc := 14) dX7_comes_14 fX7_101 rfl hR.1 ?_
    try simp only [rfM_g25, m25]
    refine jJ_if_ne (pc := 17) (tgt := 29) dX7_comes_17 (by decide) (fun c17 => ?_) (fun c17 => ?_)
    · exact s29 (by omega)
    · refine jJ_aload_n (pc := 20) dX7_comes_20 rfl ?_
      refine jJ_geti (pc := 21) dX7_comes_21 fX7_98 rfl hR.1 ?_
      try simp only [rfM_g24, m24]
      refine jJ_bipush (pc := 24) dX7_comes_24 (by decide) ?_
      refine jJ_icmp_gt (pc := 26) (tgt := 46) dX7_comes_26 (by decide) (fun c26 => ?_) (fun c26 => ?_)
      · exact too (by omega)
      · exact s29 (by omega)
end JRC
