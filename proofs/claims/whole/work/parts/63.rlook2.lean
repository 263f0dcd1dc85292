section JRP2
variable {E : jE} {I : jI} {P : jP} {d m n : Nat} {a : Nat → Nat} {s : Nat → Int} {ts : List T5}
theorem jb_cg {p q : Prop} [Decidable p] [Decidable q] (h : p ↔ q) : jb p = jb q := by
  by_cases hp : p
  · rw [← jb_t hp, ← jb_t (h.mp hp)]
  · rw [← jb_f hp, ← jb_f (fun z => hp (h.mpr z))]
theorem look_wit {Z : Code → List Frame → Array Value → State → State → Prop} {c : Option jV} {σ : Nat → Int} {T z : Nat} (hR : RfL E P m a) (hn : I (a 7) 12 = (n : Int)) (hn2 : n ≤ 800) (hd : 1 ≤ d) (h23 : σ 23 = (T : Int)) (h24 : σ 24 = (z : Int)) (hT : T ≤ 800) (hz : z ≤ 800)
    (k1 : isWdB (byN (gB I a) n ((T : Int) + (z : Int))) = true → jJ E yX7_look.cls cX7_look 2 none (jRm d) Z 0 0 188 [some (jp m), c] [] (rfM I m a σ ts) P)
    (k0 : isWdB (byN (gB I a) n ((T : Int) + (z : Int))) = false → jJ E yX7_look.cls cX7_look 2 none (jRm d) Z 0 0 265 [some (jp m), c] [] (rfM I m a σ ts) P) : jJ E yX7_look.cls cX7_look 2 none (jRm d) Z 0 0 126 [some (jp m), c] [] (rfM I m a σ ts) P := by
  refine jJ_aload_n (pc := 126) dX7_look_126 rfl ?_
  refine jJ_bipush (pc := 127) dX7_look_127 (by decide) ?_
  refine jJ_aload_n (pc := 129) dX7_look_129 rfl ?_
  refine jJ_geti (pc := 130) dX7_look_130 fX7_91 rfl hR.1 ?_
  try simp only [rfM_g23, rfM_g24, h23, h24]
  refine jJ_aload_n (pc := 133) dX7_look_133 rfl ?_
  refine jJ_geti (pc := 134) dX7_look_134 fX7_98 rfl hR.1 ?_
  try simp only [rfM_g23, rfM_g24, h23, h24]
  refine jJ_iadd (pc := 137) dX7_look_137 ⟨by omega, by omega⟩ ?_
  refine jJ_callVd (pc := 138) (as := [_, _]) dX7_look_138 mX7_94 (jRcv_of hR.1 rfl rfl) (Nat.le_of_ble_eq_true rfl) (jRm_ok (by omega) (by decide)) (r_byR (d := d - 1) hR hn hn2 (by omega)) ?_
  try simp only [rfM_g23, rfM_g24, h23, h24]
  refine jJ_callSd (pc := 141) (as := [_]) dX7_look_141 mX7_104 (Nat.le_of_ble_eq_true rfl) (jRm_ok (by omega) (by decide)) (r_isLetter (d := d - 1)) ?_
  try simp only [rfM_g23, rfM_g24, h23, h24]
  refine jJ_if_ne (pc := 144) (tgt := 188) dX7_look_144 (by decide) (fun c144 => ?_) (fun c144 => ?_)
  · try simp only [jb_z, jb_nz] at c144
    exact k1 (by unfold isWdB; exact decide_eq_true (by omega))
  · try simp only [jb_z, jb_nz] at c144
    refine jJ_aload_n (pc := 147) dX7_look_147 rfl ?_
    refine jJ_bipush (pc := 148) dX7_look_148 (by decide) ?_
    refine jJ_aload_n (pc := 150) dX7_look_150 rfl ?_
    refine jJ_geti (pc := 151) dX7_look_151 fX7_91 rfl hR.1 ?_
    try simp only [rfM_g23, rfM_g24, h23, h24]
    refine jJ_aload_n (pc := 154) dX7_look_154 rfl ?_
    refine jJ_geti (pc := 155) dX7_look_155 fX7_98 rfl hR.1 ?_
    try simp only [rfM_g23, rfM_g24, h23, h24]
    refine jJ_iadd (pc := 158) dX7_look_158 ⟨by omega, by omega⟩ ?_
    refine jJ_callVd (pc := 159) (as := [_, _]) dX7_look_159 mX7_94 (jRcv_of hR.1 rfl rfl) (Nat.le_of_ble_eq_true rfl) (jRm_ok (by omega) (by decide)) (r_byR (d := d - 1) hR hn hn2 (by omega)) ?_
    try simp only [rfM_g23, rfM_g24, h23, h24]
    refine jJ_callSd (pc := 162) (as := [_]) dX7_look_162 mX7_108 (Nat.le_of_ble_eq_true rfl) (jRm_ok (by omega) (by decide)) (r_isDigit (d := d - 1)) ?_
    try simp only [rfM_g23, rfM_g24, h23, h24]
    refine jJ_if_ne (pc := 165) (tgt := 188) dX7_look_165 (by decide) (fun c165 => ?_) (fun c165 => ?_)
    · try simp only [jb_z, jb_nz] at c165
      exact k1 (by unfold isWdB; exact decide_eq_true (by omega))
    · try simp only [jb_z, jb_nz] at c165
      refine jJ_aload_n (pc := 168) dX7_look_168 rfl ?_
      refine jJ_bipush (pc := 169) dX7_look_169 (by decide) ?_
      refine jJ_aload_n (pc := 171) dX7_look_171 rfl ?_
      refine jJ_geti (pc := 172) dX7_look_172 fX7_91 rfl hR.1 ?_
      try simp only [rfM_g23, rfM_g24, h23, h24]
      refine jJ_aload_n (pc := 175) dX7_look_175 rfl ?_
      refine jJ_geti (pc := 176) dX7_look_176 fX7_98 rfl hR.1 ?_
      try simp only [rfM_g23, rfM_g24, h23, h24]
      refine jJ_iadd (pc := 179) dX7_look_179 ⟨by omega, by omega⟩ ?_
      refine jJ_callVd (pc := 180) (as := [_, _]) dX7_look_180 mX7_94 (jRcv_of hR.1 rfl rfl) (Nat.le_of_ble_eq_true rfl) (jRm_ok (by omega) (by decide)) (r_byR (d := d - 1) hR hn hn2 (by omega)) ?_
      try simp only [rfM_g23, rfM_g24, h23, h24]
      refine jJ_bipush (pc := 183) dX7_look_183 (by decide) ?_
      refine jJ_icmp_ne (pc := 185) (tgt := 265) dX7_look_185 (by decide) (fun c185 => ?_) (fun c185 => ?_)
      · try simp only [jb_z, jb_nz] at c185
        exact k0 (by unfold isWdB; exact decide_eq_false (by omega))
      · try simp only [jb_z, jb_nz] at c185
        exact k1 (by unfold isWdB; exact decide_eq_true (by omega))
theorem look_word {c : Option jV} {T : Nat} (hR : RfL E P m a) (hn : I (a 7) 12 = (n : Int)) (hn2 : n ≤ 800) (hd : 1 ≤ d) :
    ∀ (k z : Nat), T + z + k = n → jJ E yX7_look.cls cX7_look 2 none (jRm d) (jZ E (jD none (rfM I m a (lk s (T : Int) ((runW isWdB (gB I a) k (T + z) : Int) - (T : Int)) 0) ts) P)) 0 0 126 [some (jp m), c] [] (rfM I m a (lk s (T : Int) (z : Int) 0) ts) P := by
  intro k
  induction k with
  | zero =>
    intro z hk
    refine look_wit hR hn hn2 hd lk_23 lk_24 (by omega) (by omega) (fun hb => ?_) (fun hb => ?_)
    · rw [byN_out (by omega)] at hb
      exact absurd hb (by decide)
    · refine jJ_vret (pc := 265) dX7_look_265 rfl ?_
      exact ⟨rfl, by rw [runW, show ((T + z : Nat) : Int) - (T : Int) = (z : Int) by omega], rfl⟩
  | succ k ih =>
    intro z hk
    have e1 : byN (gB I a) n ((T : Int) + (z : Int)) = gB I a (T + z) := by rw [show (T : Int) + (z : Int) = ((T + z : Nat) : Int) by omega, byN_in (by omega)]
    refine look_wit hR hn hn2 hd lk_23 lk_24 (by omega) (by omega) (fun hb => ?_) (fun hb => ?_)
    · rw [e1] at hb
      refine jJ_aload_n (pc := 188) dX7_look_188 rfl ?_
      refine jJ_dup (pc := 189) dX7_look_189 rfl ?_
      refine jJ_geti (pc := 190) dX7_look_190 fX7_98 rfl hR.1 ?_
      try simp only [rfM_g24, rfM_p24, lk_24, lk_p24]
      refine jJ_iconst (pc := 193) dX7_look_193 (by decide) ?_
      refine jJ_iadd (pc := 194) dX7_look_194 ⟨by omega, by omega⟩ ?_
      refine jJ_puti (pc := 195) dX7_look_195 fX7_98w rfl ⟨rfl, rfl⟩ hR.1 ?_
      try simp only [rfM_g24, rfM_p24, lk_24, lk_p24]
      refine jJ_goto (pc := 198) (tgt := 126) dX7_look_198 (by decide) ?_
      rw [runW, if_pos hb]
      exact ih (z + 1) (by omega)
    · rw [e1] at hb
      refine jJ_vret (pc := 265) dX7_look_265 rfl ?_
      exact ⟨rfl, by rw [runW, if_neg (by simp [hb]), show ((T + z : Nat) : Int) - (T : Int) = (z : Int) by omega], rfl⟩
theorem look_digs {c : Option jV} {T : Nat} (hR : RfL E P m a) (hn : I (a 7) 12 = (n : Int)) (hn2 : n ≤ 800) (hd : 1 ≤ d) :
    ∀ (k z : Nat), T + z + k = n → jJ E yX7_look.cls cX7_look 2 none (jRm d) (jZ E (jD none (rfM I m a (lk s (T : Int) ((runW isDgB (gB I a) k (T + z) : Int) - (T : Int)) 1) ts) P)) 0 0 213 [some (jp m), c] [] (rfM I m a (lk s (T : Int) (z : Int) 1) ts) P := by
  intro k
  induction k with
  | zero =>
    intro z hk
    refine jJ_aload_n (pc := 213) dX7_look_213 rfl ?_
    refine jJ_bipush (pc := 214) dX7_look_214 (by decide) ?_
    refine jJ_aload_n (pc := 216) dX7_look_216 rfl ?_
    refine jJ_geti (pc := 217) dX7_look_217 fX7_91 rfl hR.1 ?_
    try simp only [rfM_g23, rfM_g24, lk_23, lk_24]
    refine jJ_aload_n (pc := 220) dX7_look_220 rfl ?_
    refine jJ_geti (pc := 221) dX7_look_221 fX7_98 rfl hR.1 ?_
    try simp only [rfM_g23, rfM_g24, lk_23, lk_24]
    refine jJ_iadd (pc := 224) dX7_look_224 ⟨by omega, by omega⟩ ?_
    refine jJ_callVd (pc := 225) (as := [_, _]) dX7_look_225 mX7_94 (jRcv_of hR.1 rfl rfl) (Nat.le_of_ble_eq_true rfl) (jRm_ok (by omega) (by decide)) (r_byR (d := d - 1) hR hn hn2 (by omega)) ?_
    rw [byN_out (by omega)]
    refine jJ_callSd (pc := 228) (as := [_]) dX7_look_228 mX7_108 (Nat.le_of_ble_eq_true rfl) (jRm_ok (by omega) (by decide)) (r_isDigit (d := d - 1)) ?_
    refine jJ_if_eq (pc := 231) (tgt := 265) dX7_look_231 (by decide) (fun c231 => ?_) (fun c231 => ?_)
    · refine jJ_vret (pc := 265) dX7_look_265 rfl ?_
      exact ⟨rfl, by rw [runW, show ((T + z : Nat) : Int) - (T : Int) = (z : Int) by omega], rfl⟩
    · exact absurd c231 (by decide)
  | succ k ih =>
    intro z hk
    refine jJ_aload_n (pc := 213) dX7_look_213 rfl ?_
    refine jJ_bipush (pc := 214) dX7_look_214 (by decide) ?_
    refine jJ_aload_n (pc := 216) dX7_look_216 rfl ?_
    refine jJ_geti (pc := 217) dX7_look_217 fX7_91 rfl hR.1 ?_
    try simp only [rfM_g23, rfM_g24, lk_23, lk_24]
    refine jJ_aload_n (pc := 220) dX7_look_220 rfl ?_
    refine jJ_geti (pc := 221) dX7_look_221 fX7_98 rfl hR.1 ?_
    try simp only [rfM_g23, rfM_g24, lk_23, lk_24]
    refine jJ_iadd (pc := 224) dX7_look_224 ⟨by omega, by omega⟩ ?_
    refine jJ_callVd (pc := 225) (as := [_, _]) dX7_look_225 mX7_94 (jRcv_of hR.1 rfl rfl) (Nat.le_of_ble_eq_true rfl) (jRm_ok (by omega) (by decide)) (r_byR (d := d - 1) hR hn hn2 (by omega)) ?_
    rw [show (T : Int) + (z : Int) = ((T + z : Nat) : Int) by omega, byN_in (by omega)]
    refine jJ_callSd (pc := 228) (as := [_]) dX7_look_228 mX7_108 (Nat.le_of_ble_eq_true rfl) (jRm_ok (by omega) (by decide)) (r_isDigit (d := d - 1)) ?_
    refine jJ_if_eq (pc := 231) (tgt := 265) dX7_look_231 (by decide) (fun c231 => ?_) (fun c231 => ?_)
    · simp only [jb_z] at c231
      refine jJ_vret (pc := 265) dX7_look_265 rfl ?_
      exact ⟨rfl, by rw [runW, if_neg (by unfold isDgB; rw [decide_eq_true_iff]; exact c231), show ((T + z : Nat) : Int) - (T : Int) = (z : Int) by omega], rfl⟩
    · simp only [jb_nz] at c231
      refine jJ_aload_n (pc := 234) dX7_look_234 rfl ?_
      refine jJ_dup (pc := 235) dX7_look_235 rfl ?_
      refine jJ_geti (pc := 236) dX7_look_236 fX7_98 rfl hR.1 ?_
      try simp only [rfM_g24, rfM_p24, lk_24, lk_p24]
      refine jJ_iconst (pc := 239) dX7_look_239 (by decide) ?_
      refine jJ_iadd (pc := 240) dX7_look_240 ⟨by omega, by omega⟩ ?_
      refine jJ_puti (pc := 241) dX7_look_241 fX7_98w rfl ⟨rfl, rfl⟩ hR.1 ?_
      try simp only [rfM_g24, rfM_p24, lk_24, lk_p24]
      refine jJ_goto (pc := 244) (tgt := 213) dX7_look_244 (by decide) ?_
      rw [runW, if_pos (by unfold isDgB; exact decide_eq_true c231)]
      exact ih (z + 1) (by omega)
theorem iOf4 (x : Int) : iOf (sCh 4) x 0 (sLn 4) < 0 ↔ ¬ isSgB x = true := by
  have e : sLn 4 = 10 := by decide
  have c0 : sCh 4 0 = 61 := by decide +kernel
  have c1 : sCh 4 1 = 43 := by decide +kernel
  have c2 : sCh 4 2 = 45 := by decide +kernel
  have c3 : sCh 4 3 = 60 := by decide +kernel
  have c4 : sCh 4 4 = 40 := by decide +kernel
  have c5 : sCh 4 5 = 41 := by decide +kernel
  have c6 : sCh 4 6 = 123 := by decide +kernel
  have c7 : sCh 4 7 = 125 := by decide +kernel
  have c8 : sCh 4 8 = 44 := by decide +kernel
  have c9 : sCh 4 9 = 59 := by decide +kernel
  rw [e]
  simp only [iOf, c0, c1, c2, c3, c4, c5, c6, c7, c8, c9, Nat.zero_add, Nat.reduceAdd, isSgB, decide_eq_true_iff]
  (repeat' split) <;> omega
theorem isSgB_jB {b : Int} (h : 0 ≤ b ∧ b ≤ 255) : isSgB (jB b) = isSgB b := by
  by_cases h1 : b ≤ 127
  · rw [jB_id ⟨by omega, h1⟩]
  · have e : jB b = b - 256 := by rw [jB_eq, Int.bmod_def]; split <;> omega
    unfold isSgB
    rw [e]
    rw [decide_eq_decide]
    omega
theorem wSort_srt {f : Nat → Int} {k : Nat} {x y : Int} : srt (wSort f k x y) = 0 := by
  unfold wSort
  (repeat' split) <;> decide
theorem wSort_cases (f : Nat → Int) (k : Nat) (x y : Int) : wSort f k x y = 1 ∨ wSort f k x y = 3 ∨ wSort f k x y = 4 ∨ wSort f k x y = 5 ∨ wSort f k x y = 6 := by
  unfold wSort
  (repeat' split) <;> simp
/-- the reference's numbers behind look() -/
def lkS (g : Nat → Int) (n : Nat) (s : Nat → Int) : Nat → Int := lk s (tkS g n (s 22).toNat : Int) ((tkE g n (s 22).toNat : Int) - (tkS g n (s 22).toNat : Int)) (srt (tkG g n (s 22).toNat))
theorem look_end {T i : Nat} (hR : RfL E P m a) (hn : I (a 7) 12 = (n : Int)) (hn2 : n ≤ 800) (hg : ∀ k, k < n → 0 ≤ gB I a k ∧ gB I a k ≤ 255) (hd : 4 ≤ d) (hT : T ≤ 800) (hTi : T = tkS (gB I a) n i) :
    jJ E yX7_look.cls cX7_look 2 none (jRm d) (jZ E (jD none (rfM I m a (lk s (T : Int) ((tkE (gB I a) n i : Int) - (T : Int)) (srt (tkG (gB I a) n i))) ts) P)) 0 0 65 [some (jp m), none] [] (rfM I m a (su s 23 (T : Int)) ts) P := by
  have e7 : ∀ s ts, rfM I m a s ts (a 7) ((12 : Int).toNat) = (n : Int) := fun s ts => by rw [rfM_7 hR]; exact hn
  refine jJ_aload_n (pc := 65) dX7_look_65 rfl ?_
  refine jJ_bipush (pc := 66) dX7_look_66 (by decide) ?_
  refine jJ_aload_n (pc := 68) dX7_look_68 rfl ?_
  refine jJ_geti (pc := 69) dX7_look_69 fX7_91 rfl hR.1 ?_
  try simp only [rfM_g23, su_s]
  refine jJ_callVd (pc := 72) (as := [_, _]) dX7_look_72 mX7_94 (jRcv_of hR.1 rfl rfl) (Nat.le_of_ble_eq_true rfl) (jRm_ok (by omega) (by decide)) (r_byR (d := d - 1) hR hn hn2 (by omega)) ?_
  refine jJ_istore_n (pc := 75) (ls' := [_, _]) dX7_look_75 (Nat.le_of_ble_eq_true rfl) rfl ?_
  refine jJ_aload_n (pc := 76) dX7_look_76 rfl ?_
  refine jJ_aload_n (pc := 77) dX7_look_77 rfl ?_
  refine jJ_geti (pc := 78) dX7_look_78 fX7_91 rfl hR.1 ?_
  try simp only [rfM_g23, e7, su_s]
  refine jJ_aload_n (pc := 81) dX7_look_81 rfl ?_
  refine jJ_getr (pc := 82) dX7_look_82 fX7_24 rfl hR.1 hR.p7 ?_
  try simp only [rfM_g23, e7, su_s]
  refine jJ_bipush (pc := 85) dX7_look_85 (by decide) ?_
  refine jJ_iald (pc := 87) dX7_look_87 hR.a7 ⟨by omega, by omega⟩ ?_
  try simp only [rfM_g23, e7, su_s]
  refine jJ_icmp_ge (pc := 88) (tgt := 95) dX7_look_88 (by decide) (fun c88 => ?_) (fun c88 => ?_)
  · refine jJ_iconst (pc := 95) dX7_look_95 (by decide) ?_
    refine jJ_puti (pc := 96) dX7_look_96 fX7_98w rfl ⟨rfl, rfl⟩ hR.1 ?_
    try simp only [rfM_p24, lk_0]
    refine jJ_aload_n (pc := 99) dX7_look_99 rfl ?_
    refine jJ_geti (pc := 100) dX7_look_100 fX7_98 rfl hR.1 ?_
    try simp only [rfM_g24, lk_24]
    refine jJ_if_ne (pc := 103) (tgt := 114) dX7_look_103 (by decide) (fun c103 => ?_) (fun c103 => ?_)
    · exact absurd rfl c103
    · refine jJ_aload_n (pc := 106) dX7_look_106 rfl ?_
      refine jJ_iconst (pc := 107) dX7_look_107 (by decide) ?_
      refine jJ_puti (pc := 108) dX7_look_108 fX7_101w rfl ⟨rfl, rfl⟩ hR.1 ?_
      try simp only [rfM_p25, lk_p25]
      refine jJ_goto (pc := 111) (tgt := 265) dX7_look_111 (by decide) ?_
      refine jJ_vret (pc := 265) dX7_look_265 rfl ?_
      exact ⟨rfl, by rw [tkE, tkG, ← hTi, if_pos (by omega), if_pos (by omega), Int.sub_self]; rfl, rfl⟩
  · rw [byN_in (by omega)]
    refine jJ_iconst (pc := 91) dX7_look_91 (by decide) ?_
    refine jJ_goto (pc := 92) (tgt := 96) dX7_look_92 (by decide) ?_
    refine jJ_puti (pc := 96) dX7_look_96 fX7_98w rfl ⟨rfl, rfl⟩ hR.1 ?_
    try simp only [rfM_p24, lk_0]
    refine jJ_aload_n (pc := 99) dX7_look_99 rfl ?_
    refine jJ_geti (pc := 100) dX7_look_100 fX7_98 rfl hR.1 ?_
    try simp only [rfM_g24, lk_24]
    refine jJ_if_ne (pc := 103) (tgt := 114) dX7_look_103 (by decide) (fun c103 => ?_) (fun c103 => ?_)
    · refine jJ_iload_n (pc := 114) dX7_look_114 rfl ?_
      refine jJ_callSd (pc := 115) (as := [_]) dX7_look_115 mX7_104 (Nat.le_of_ble_eq_true rfl) (jRm_ok (by omega) (by decide)) (r_isLetter (d := d - 1)) ?_
      refine jJ_if_eq (pc := 118) (tgt := 201) dX7_look_118 (by decide) (fun c118 => ?_) (fun c118 => ?_)
      · simp only [jb_z] at c118
        have nl : ¬ isLtB (gB I a T) = true := by unfold isLtB; rw [decide_eq_true_iff]; exact c118
        refine jJ_iload_n (pc := 201) dX7_look_201 rfl ?_
        refine jJ_callSd (pc := 202) (as := [_]) dX7_look_202 mX7_108 (Nat.le_of_ble_eq_true rfl) (jRm_ok (by omega) (by decide)) (r_isDigit (d := d - 1)) ?_
        refine jJ_if_eq (pc := 205) (tgt := 247) dX7_look_205 (by decide) (fun c205 => ?_) (fun c205 => ?_)
        · simp only [jb_z] at c205
          have nd : ¬ isDgB (gB I a T) = true := by unfold isDgB; rw [decide_eq_true_iff]; exact c205
          have eE : (tkE (gB I a) n i : Int) - (T : Int) = 1 := by rw [tkE, ← hTi, if_neg (by omega), if_neg nl, if_neg nd]; omega
          refine jJ_aload_n (pc := 247) dX7_look_247 rfl ?_
          refine jJ_ldcS (pc := 248) (i := 4) dX7_look_248 (by decide +kernel) ?_
          refine jJ_iload_n (pc := 250) dX7_look_250 rfl ?_
          refine jJ_callVd (pc := 251) (as := [_]) dX7_look_251 mX7_113 (Or.inr ⟨rfl, 4, by decide, rfl⟩) (Nat.le_of_ble_eq_true rfl) (jRm_ok (by omega) (by decide)) (c_indexOf (d := d - 1) (i := 4) (by decide) (hg T (by omega)) (by decide) (by omega)) ?_
          refine jJ_if_lt (pc := 254) (tgt := 261) dX7_look_254 (by decide) (fun c254 => ?_) (fun c254 => ?_)
          · rw [iOf4, isSgB_jB (hg T (by omega))] at c254
            refine jJ_iconst (pc := 261) dX7_look_261 (by decide) ?_
            refine jJ_puti (pc := 262) dX7_look_262 fX7_101w rfl ⟨rfl, rfl⟩ hR.1 ?_
            try simp only [rfM_p25, lk_p25]
            refine jJ_vret (pc := 265) dX7_look_265 rfl ?_
            exact ⟨rfl, by rw [eE, tkG, ← hTi, if_neg (by omega), if_neg nl, if_neg nd, if_neg c254]; rfl, rfl⟩
          · replace c254 : isSgB (gB I a T) = true := Decidable.byContradiction (fun z => by rw [← isSgB_jB (hg T (by omega))] at z; have := (iOf4 _).mpr z; omega)
            have hs : srt (gB I a T) = 2 := by
              have := c254
              unfold isSgB at this
              rw [decide_eq_true_iff] at this
              unfold srt
              rw [if_neg (by omega), if_neg (by omega), if_neg (by omega)]
            refine jJ_iconst (pc := 257) dX7_look_257 (by decide) ?_
            refine jJ_goto (pc := 258) (tgt := 262) dX7_look_258 (by decide) ?_
            refine jJ_puti (pc := 262) dX7_look_262 fX7_101w rfl ⟨rfl, rfl⟩ hR.1 ?_
            try simp only [rfM_p25, lk_p25]
            refine jJ_vret (pc := 265) dX7_look_265 rfl ?_
            exact ⟨rfl, by rw [eE, tkG, ← hTi, if_neg (by omega), if_neg nl, if_neg nd, if_pos c254, hs], rfl⟩
        · simp only [jb_nz] at c205
          have nd : isDgB (gB I a T) = true := by unfold isDgB; exact decide_eq_true c205
          refine jJ_aload_n (pc := 208) dX7_look_208 rfl ?_
          refine jJ_iconst (pc := 209) dX7_look_209 (by decide) ?_
          refine jJ_puti (pc := 210) dX7_look_210 fX7_101w rfl ⟨rfl, rfl⟩ hR.1 ?_
          try simp only [rfM_p25, lk_p25]
          have k := look_digs (d := d) (P := P) (s := s) (ts := ts) (c := some (ji (gB I a T))) (T := T) hR hn hn2 (by omega) (n - T - 1) 1 (by omega)
          rw [show tkE (gB I a) n i = runW isDgB (gB I a) (n - T - 1) (T + 1) by rw [tkE, ← hTi, if_neg (by omega), if_neg nl, if_pos nd, show n - T = (n - T - 1) + 1 by omega, runW, if_pos nd]; rfl, show srt (tkG (gB I a) n i) = 1 by rw [tkG, ← hTi, if_neg (by omega), if_neg nl, if_pos nd]; rfl]
          exact k
      · simp only [jb_nz] at c118
        have nl : isLtB (gB I a T) = true := by unfold isLtB; exact decide_eq_true c118
        have nw : isWdB (gB I a T) = true := by unfold isWdB; exact decide_eq_true (by omega)
        refine jJ_aload_n (pc := 121) dX7_look_121 rfl ?_
        refine jJ_iconst (pc := 122) dX7_look_122 (by decide) ?_
        refine jJ_puti (pc := 123) dX7_look_123 fX7_101w rfl ⟨rfl, rfl⟩ hR.1 ?_
        try simp only [rfM_p25, lk_p25]
        have k := look_word (d := d) (P := P) (s := s) (ts := ts) (c := some (ji (gB I a T))) (T := T) hR hn hn2 (by omega) (n - T - 1) 1 (by omega)
        rw [show tkE (gB I a) n i = runW isWdB (gB I a) (n - T - 1) (T + 1) by rw [tkE, ← hTi, if_neg (by omega), if_pos nl, show n - T = (n - T - 1) + 1 by omega, runW, if_pos nw]; rfl, show srt (tkG (gB I a) n i) = 0 by rw [tkG, ← hTi, if_neg (by omega), if_pos nl, wSort_srt]]
        exact k
    · exact absurd c103 (by decide)
theorem r_look (hR : RfL E P m a) (hn : I (a 7) 12 = (n : Int)) (hn2 : n ≤ 800) (hg : ∀ k, k < n → 0 ≤ gB I a k ∧ gB I a k ≤ 255) (h22 : 0 ≤ s 22 ∧ s 22 ≤ 800) (hd : 4 ≤ d) :
    jC E yX7_look cX7_look 2 none d [jp m] (rfM I m a s ts) P (jD none (rfM I m a (lkS (gB I a) n s) ts) P) := by
  refine jC_intro (by decide +kernel) (by simp [jc, va_rf, Value.category]) (Nat.le_of_ble_eq_true rfl) ?_
  refine jJ_aload_n (pc := 0) dX7_look_0 rfl ?_
  refine jJ_aload_n (pc := 1) dX7_look_1 rfl ?_
  refine jJ_geti (pc := 2) dX7_look_2 fX7_88 rfl hR.1 ?_
  try simp only [rfM_g22, rfM_p23]
  refine jJ_puti (pc := 5) dX7_look_5 fX7_91w rfl ⟨rfl, rfl⟩ hR.1 ?_
  try simp only [rfM_g22, rfM_p23]
  have hT : tkS (gB I a) n (s 22).toNat ≤ 800 := (tk_le (by omega) hn2).1
  have e0 : s 22 = (((s 22).toNat : Nat) : Int) := by omega
  rw [e0]
  exact look_skip hR hn hn2 (by omega) (look_end hR hn hn2 hg hd hT rfl) _ (s 22).toNat rfl (by omega) rfl
/-- whether what is read next is the text i -/
def isB (g : Nat → Int) (i T z : Nat) : Bool := decide (z = sLn i ∧ allE g (sCh i) T 0 z = true)
theorem is_loop {i T z : Nat} (hR : RfL E P m a) (hi : i < 15) (hn : I (a 7) 12 = (n : Int)) (hn2 : n ≤ 800) (h23 : s 23 = (T : Int)) (h24 : s 24 = (z : Int)) (hz : z = sLn i) (hTz : z = 0 ∨ T + z ≤ n) (hd : 4 ≤ d) :
    ∀ (k j : Nat), j + k = z → jJ E yX7_is.cls cX7_is 4 (some .boolean) (jRm d) (jZ E (jD (some (ji (jb (allE (gB I a) (sCh i) (T + j) j k = true)))) (rfM I m a s ts) P)) 0 0 19 [some (jp m), some (jp (eSk E i)), some (ji 1), some (ji (j : Int))] [] (rfM I m a s ts) P := by
  intro k
  induction k with
  | zero =>
    intro j hk
    refine jJ_iload_n (pc := 19) dX7_is_19 rfl ?_
    refine jJ_aload_n (pc := 20) dX7_is_20 rfl ?_
    refine jJ_geti (pc := 21) dX7_is_21 fX7_98 rfl hR.1 ?_
    try simp only [rfM_g24, h24]
    refine jJ_icmp_ge (pc := 24) (tgt := 63) dX7_is_24 (by decide) (fun c24 => ?_) (fun c24 => ?_)
    · refine jJ_iload_n (pc := 63) dX7_is_63 rfl ?_
      refine jJ_zret (pc := 64) dX7_is_64 rfl (by decide) ?_
      exact ⟨rfl, rfl, rfl⟩
    · exfalso
      omega
  | succ k ih =>
    intro j hk
    refine jJ_iload_n (pc := 19) dX7_is_19 rfl ?_
    refine jJ_aload_n (pc := 20) dX7_is_20 rfl ?_
    refine jJ_geti (pc := 21) dX7_is_21 fX7_98 rfl hR.1 ?_
    try simp only [rfM_g24, h24]
    refine jJ_icmp_ge (pc := 24) (tgt := 63) dX7_is_24 (by decide) (fun c24 => ?_) (fun c24 => ?_)
    · exfalso
      omega
    · refine jJ_iload_n (pc := 27) dX7_is_27 rfl ?_
      refine jJ_if_eq (pc := 28) (tgt := 63) dX7_is_28 (by decide) (fun c28 => ?_) (fun c28 => ?_)
      · exact absurd c28 (by decide)
      · refine jJ_aload_n (pc := 31) dX7_is_31 rfl ?_
        refine jJ_bipush (pc := 32) dX7_is_32 (by decide) ?_
        refine jJ_aload_n (pc := 34) dX7_is_34 rfl ?_
        refine jJ_geti (pc := 35) dX7_is_35 fX7_91 rfl hR.1 ?_
        try simp only [rfM_g23, h23]
        refine jJ_iload_n (pc := 38) dX7_is_38 rfl ?_
        refine jJ_iadd (pc := 39) dX7_is_39 ⟨by omega, by omega⟩ ?_
        refine jJ_callVd (pc := 40) (as := [_, _]) dX7_is_40 mX7_94 (jRcv_of hR.1 rfl rfl) (Nat.le_of_ble_eq_true rfl) (jRm_ok (by omega) (by decide)) (r_byR (d := d - 1) hR hn hn2 (by omega)) ?_
        rw [show (T : Int) + (j : Int) = ((T + j : Nat) : Int) by omega, byN_in (by omega)]
        refine jJ_aload_n (pc := 43) dX7_is_43 rfl ?_
        refine jJ_iload_n (pc := 44) dX7_is_44 rfl ?_
        refine jJ_callVd (pc := 45) (as := [_]) dX7_is_45 mX7_126 (Or.inr ⟨rfl, i, hi, rfl⟩) (Nat.le_of_ble_eq_true rfl) (jRm_ok (by omega) (by decide)) (c_charAt (d := d - 1) hi (by omega) (by omega)) ?_
        refine jJ_icmp_ne (pc := 48) (tgt := 55) dX7_is_48 (by decide) (fun c48 => ?_) (fun c48 => ?_)
        · rw [allE_f c48]
          refine jJ_iconst (pc := 55) dX7_is_55 (by decide) ?_
          refine jJ_istore_n (pc := 56) (ls' := [_, _, _, _]) dX7_is_56 (Nat.le_of_ble_eq_true rfl) rfl ?_
          refine jJ_iinc (pc := 57) (ls' := [_, _, _, _]) dX7_is_57 rfl ⟨by omega, by omega⟩ rfl ?_
          refine jJ_goto (pc := 60) (tgt := 19) dX7_is_60 (by decide) ?_
          refine jJ_iload_n (pc := 19) dX7_is_19 rfl ?_
          refine jJ_aload_n (pc := 20) dX7_is_20 rfl ?_
          refine jJ_geti (pc := 21) dX7_is_21 fX7_98 rfl hR.1 ?_
          try simp only [rfM_g24, h24]
          refine jJ_icmp_ge (pc := 24) (tgt := 63) dX7_is_24 (by decide) (fun c24 => ?_) (fun c24 => ?_)
          · refine jJ_iload_n (pc := 63) dX7_is_63 rfl ?_
            refine jJ_zret (pc := 64) dX7_is_64 rfl (by decide) ?_
            exact ⟨rfl, rfl, rfl⟩
          · refine jJ_iload_n (pc := 27) dX7_is_27 rfl ?_
            refine jJ_if_eq (pc := 28) (tgt := 63) dX7_is_28 (by decide) (fun c28 => ?_) (fun c28 => ?_)
            · refine jJ_iload_n (pc := 63) dX7_is_63 rfl ?_
              refine jJ_zret (pc := 64) dX7_is_64 rfl (by decide) ?_
              exact ⟨rfl, rfl, rfl⟩
            · exact absurd rfl c28
        · rw [allE_t c48]
          refine jJ_iconst (pc := 51) dX7_is_51 (by decide) ?_
          refine jJ_goto (pc := 52) (tgt := 56) dX7_is_52 (by decide) ?_
          refine jJ_istore_n (pc := 56) (ls' := [_, _, _, _]) dX7_is_56 (Nat.le_of_ble_eq_true rfl) rfl ?_
          refine jJ_iinc (pc := 57) (ls' := [_, _, _, _]) dX7_is_57 rfl ⟨by omega, by omega⟩ rfl ?_
          refine jJ_goto (pc := 60) (tgt := 19) dX7_is_60 (by decide) ?_
          exact ih (j + 1) (by omega)
theorem r_is {i T z : Nat} (hR : RfL E P m a) (hi : i < 15) (hn : I (a 7) 12 = (n : Int)) (hn2 : n ≤ 800) (h23 : s 23 = (T : Int)) (h24 : s 24 = (z : Int)) (hTz : z = 0 ∨ T + z ≤ n) (hd : 4 ≤ d) :
    jC E yX7_is cX7_is 4 (some .boolean) d [jp m, jp (eSk E i)] (rfM I m a s ts) P (jD (some (ji (jb (isB (gB I a) i T z = true)))) (rfM I m a s ts) P) := by
  have hl := sLn_ok i hi
  refine jC_intro (by decide +kernel) (by simp [jc, va_rf, Value.category]) (Nat.le_of_ble_eq_true rfl) ?_
  refine jJ_aload_n (pc := 0) dX7_is_0 rfl ?_
  refine jJ_geti (pc := 1) dX7_is_1 fX7_98 rfl hR.1 ?_
  try simp only [rfM_g24, h24]
  refine jJ_aload_n (pc := 4) dX7_is_4 rfl ?_
  refine jJ_callVd (pc := 5) (as := []) dX7_is_5 mX7_122 (Or.inr ⟨rfl, i, hi, rfl⟩) (Nat.le_of_ble_eq_true rfl) (jRm_ok (by omega) (by decide)) (c_len (d := d - 1) hi (by omega)) ?_
  refine jJ_icmp_ne (pc := 8) (tgt := 15) dX7_is_8 (by decide) (fun c8 => ?_) (fun c8 => ?_)
  · refine jJ_iconst (pc := 15) dX7_is_15 (by decide) ?_
    refine jJ_istore_n (pc := 16) (ls' := [_, _, _, _]) dX7_is_16 (Nat.le_of_ble_eq_true rfl) rfl ?_
    refine jJ_iconst (pc := 17) dX7_is_17 (by decide) ?_
    refine jJ_istore_n (pc := 18) (ls' := [_, _, _, _]) dX7_is_18 (Nat.le_of_ble_eq_true rfl) rfl ?_
    have e0 : ¬ isB (gB I a) i T z = true := by unfold isB; rw [decide_eq_true_iff]; omega
    refine jJ_iload_n (pc := 19) dX7_is_19 rfl ?_
    refine jJ_aload_n (pc := 20) dX7_is_20 rfl ?_
    refine jJ_geti (pc := 21) dX7_is_21 fX7_98 rfl hR.1 ?_
    try simp only [rfM_g24, h24]
    refine jJ_icmp_ge (pc := 24) (tgt := 63) dX7_is_24 (by decide) (fun c24 => ?_) (fun c24 => ?_)
    · refine jJ_iload_n (pc := 63) dX7_is_63 rfl ?_
      refine jJ_zret (pc := 64) dX7_is_64 rfl (by decide) ?_
      exact ⟨by rw [← jb_f e0], rfl, rfl⟩
    · refine jJ_iload_n (pc := 27) dX7_is_27 rfl ?_
      refine jJ_if_eq (pc := 28) (tgt := 63) dX7_is_28 (by decide) (fun c28 => ?_) (fun c28 => ?_)
      · refine jJ_iload_n (pc := 63) dX7_is_63 rfl ?_
        refine jJ_zret (pc := 64) dX7_is_64 rfl (by decide) ?_
        exact ⟨by rw [← jb_f e0], rfl, rfl⟩
      · exact absurd rfl c28
  · refine jJ_iconst (pc := 11) dX7_is_11 (by decide) ?_
    refine jJ_goto (pc := 12) (tgt := 16) dX7_is_12 (by decide) ?_
    refine jJ_istore_n (pc := 16) (ls' := [_, _, _, _]) dX7_is_16 (Nat.le_of_ble_eq_true rfl) rfl ?_
    refine jJ_iconst (pc := 17) dX7_is_17 (by decide) ?_
    refine jJ_istore_n (pc := 18) (ls' := [_, _, _, _]) dX7_is_18 (Nat.le_of_ble_eq_true rfl) rfl ?_
    have k := is_loop (d := d) (P := P) (s := s) (ts := ts) hR hi hn hn2 h23 h24 (by omega) hTz hd z 0 (by omega)
    have hb : isB (gB I a) i T z = true ↔ allE (gB I a) (sCh i) (T + 0) 0 z = true := by unfold isB; rw [decide_eq_true_iff]; exact ⟨fun h => h.2, fun h => ⟨by omega, h⟩⟩
    have e1 : jb (isB (gB I a) i T z = true) = jb (allE (gB I a) (sCh i) (T + 0) 0 z = true) := jb_cg hb
    rw [e1]
    exact k
end JRP2
