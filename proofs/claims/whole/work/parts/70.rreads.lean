section JRR
variable {E : jE} {I : jI} {P : jP} {m n d : Nat} {a : Nat → Nat} {fk fp : Int} {s r : Nat → Int} {ts : List T5}
/-- a row's k numbers from s on are copied to d on -/
def cpR (f : Nat → Int) (s d k : Nat) : Nat → Int := fun j => if d ≤ j ∧ j < d + k then f (s + (j - d)) else f j
/-- the rows 11 to 15: the first k TOKENS that were read are copied to the TEXT t -/
def c5 (M : jI) (a : Nat → Nat) (t k : Nat) : jI := fun b j => if b = a 11 ∨ b = a 12 ∨ b = a 13 ∨ b = a 14 ∨ b = a 15 then cpR (M b) 2412 (201 * t) k j else M b j
theorem cpR_0 {f : Nat → Int} {s d : Nat} : cpR f s d 0 = f := by
  funext j
  unfold cpR
  rw [if_neg (by omega)]
theorem cpR_s {f : Nat → Int} {s d k j : Nat} (h : d + k ≤ s) : cpR f s d (k + 1) j = if j = d + k then f (s + k) else cpR f s d k j := by
  unfold cpR
  by_cases q : j = d + k
  · rw [if_pos q, if_pos (by omega), show s + (j - d) = s + k by omega]
  · rw [if_neg q]
    by_cases q2 : d ≤ j ∧ j < d + k
    · rw [if_pos q2, if_pos (by omega)]
    · rw [if_neg q2, if_neg (by omega)]
theorem cpR_hi {f : Nat → Int} {s d k j : Nat} (h : d + k ≤ j) : cpR f s d k j = f j := by unfold cpR; rw [if_neg (by omega)]
theorem c5_0 {M : jI} {t : Nat} : c5 M a t 0 = M := by
  funext b j
  unfold c5
  split
  · rw [cpR_0]
  · rfl
theorem c5_x {M : jI} {t k b : Nat} (h : ¬ (b = a 11 ∨ b = a 12 ∨ b = a 13 ∨ b = a 14 ∨ b = a 15)) : c5 M a t k b = M b := by
  funext j
  unfold c5
  rw [if_neg h]
theorem c5_r {M : jI} {t k b : Nat} (h : b = a 11 ∨ b = a 12 ∨ b = a 13 ∨ b = a 14 ∨ b = a 15) : c5 M a t k b = cpR (M b) 2412 (201 * t) k := by
  funext j
  unfold c5
  rw [if_pos h]
theorem c5_s {M : jI} {t k : Nat} (hR : RfL E P m a) (h : 201 * t + k < 2412) : jput (jput (jput (jput (jput (c5 M a t k) (a 11) (201 * t + k) (M (a 11) (2412 + k))) (a 12) (201 * t + k) (M (a 12) (2412 + k))) (a 13) (201 * t + k) (M (a 13) (2412 + k))) (a 14) (201 * t + k) (M (a 14) (2412 + k))) (a 15) (201 * t + k) (M (a 15) (2412 + k)) = c5 M a t (k + 1) := by
  have d1 : ∀ {i j : Nat}, i ∈ rfK → j ∈ rfK → i ≠ j → a i ≠ a j := fun h1 h2 h3 => hR.d h1 h2 h3
  funext b j
  by_cases h15 : b = a 15
  · subst h15
    rw [c5_r (by simp), cpR_s (by omega)]
    simp only [jput, true_and]
    split
    · rfl
    · have e14 := d1 (i := 15) (j := 14) (by decide) (by decide) (by decide)
      have e13 := d1 (i := 15) (j := 13) (by decide) (by decide) (by decide)
      have e12 := d1 (i := 15) (j := 12) (by decide) (by decide) (by decide)
      have e11 := d1 (i := 15) (j := 11) (by decide) (by decide) (by decide)
      simp only [e14, e13, e12, e11, false_and, if_false]
      rw [c5_r (by simp)]
  · by_cases h14 : b = a 14
    · subst h14
      rw [c5_r (by simp), cpR_s (by omega)]
      simp only [jput, true_and, h15, false_and, if_false]
      split
      · rfl
      · have e13 := d1 (i := 14) (j := 13) (by decide) (by decide) (by decide)
        have e12 := d1 (i := 14) (j := 12) (by decide) (by decide) (by decide)
        have e11 := d1 (i := 14) (j := 11) (by decide) (by decide) (by decide)
        simp only [e13, e12, e11, false_and, if_false]
        rw [c5_r (by simp)]
    · by_cases h13 : b = a 13
      · subst h13
        rw [c5_r (by simp), cpR_s (by omega)]
        simp only [jput, true_and, h15, h14, false_and, if_false]
        split
        · rfl
        · have e12 := d1 (i := 13) (j := 12) (by decide) (by decide) (by decide)
          have e11 := d1 (i := 13) (j := 11) (by decide) (by decide) (by decide)
          simp only [e12, e11, false_and, if_false]
          rw [c5_r (by simp)]
      · by_cases h12 : b = a 12
        · subst h12
          rw [c5_r (by simp), cpR_s (by omega)]
          simp only [jput, true_and, h15, h14, h13, false_and, if_false]
          split
          · rfl
          · have e11 := d1 (i := 12) (j := 11) (by decide) (by decide) (by decide)
            simp only [e11, false_and, if_false]
            rw [c5_r (by simp)]
        · by_cases h11 : b = a 11
          · subst h11
            rw [c5_r (by simp), cpR_s (by omega)]
            simp only [jput, true_and, h15, h14, h13, h12, false_and, if_false]
            split
            · rfl
            · rw [c5_r (by simp)]
          · simp only [jput, h15, h14, h13, h12, h11, false_and, if_false]
            rw [c5_x (by simp [h11, h12, h13, h14, h15]), c5_x (by simp [h11, h12, h13, h14, h15])]
/-- the memory where the numbers of the TEXT t are set, but its rows not yet -/
def rdF1 (I : jI) (m : Nat) (a : Nat → Nat) (n t : Nat) (hand : Int) (σ : Nat → Int) (ts : List T5) : jI := jput (jput (jput (jput (jput (rfM I m a σ ts) (a 5) t 1) (a 8) t hand) (a 7) t (n : Int)) (a 9) t (ts.length : Int)) (a 10) t (σ 10)
def rdF2 (I : jI) (m : Nat) (a : Nat → Nat) (n t : Nat) (hand : Int) (σ : Nat → Int) (ts : List T5) (k : Nat) : jI := fun b j => if b = a 6 then cpR (I (a 6)) 9600 (800 * t) k j else rdF1 I m a n t hand σ ts b j
/-- the memory behind a reading without FAULT -/
def rdF (I : jI) (m : Nat) (a : Nat → Nat) (n t : Nat) (hand : Int) (σ : Nat → Int) (ts : List T5) : jI := c5 (rdF2 I m a n t hand σ ts n) a t ts.length
theorem rdF1_x {b t : Nat} {hand : Int} {σ : Nat → Int} (h5 : b ≠ a 5) (h7 : b ≠ a 7) (h8 : b ≠ a 8) (h9 : b ≠ a 9) (h10 : b ≠ a 10) : rdF1 I m a n t hand σ ts b = rfM I m a σ ts b := by
  funext j
  unfold rdF1
  rw [jput_a _ h10, jput_a _ h9, jput_a _ h7, jput_a _ h8, jput_a _ h5]
theorem rdF2_x {b t k : Nat} {hand : Int} {σ : Nat → Int} (h : b ≠ a 6) : rdF2 I m a n t hand σ ts k b = rdF1 I m a n t hand σ ts b := by
  funext j
  unfold rdF2
  rw [if_neg h]
theorem rdF2_0 {t : Nat} {hand : Int} {σ : Nat → Int} (hR : RfL E P m a) : rdF2 I m a n t hand σ ts 0 = rdF1 I m a n t hand σ ts := by
  funext b j
  unfold rdF2
  by_cases h : b = a 6
  · rw [if_pos h, cpR_0, h, rdF1_x (hR.d (by decide) (by decide) (by decide)) (hR.d (by decide) (by decide) (by decide)) (hR.d (by decide) (by decide) (by decide)) (hR.d (by decide) (by decide) (by decide)) (hR.d (by decide) (by decide) (by decide)), rfM_6 hR]
  · rw [if_neg h]
theorem rdF2_s {t k : Nat} {hand : Int} {σ : Nat → Int} (h : 800 * t + k < 9600) : jput (rdF2 I m a n t hand σ ts k) (a 6) (800 * t + k) (I (a 6) (9600 + k)) = rdF2 I m a n t hand σ ts (k + 1) := by
  funext b j
  unfold rdF2
  by_cases q : b = a 6
  · rw [if_pos q, cpR_s (by omega)]
    simp only [jput, q, true_and, if_true]
  · rw [if_neg q, jput_a _ q, if_neg q]
theorem cp1_loop {Z : Code → List Frame → Array Value → State → State → Prop} {t : Nat} {hand : Int} {σ : Nat → Int} (hR : RfL E P m a) (hn2 : n ≤ 800) (ht : t < 12) (kk : jJ E yX7_reads.cls cX7_reads 4 (some .boolean) (jRm d) Z 0 0 144 [some (jp m), some (ji (t : Int)), some (ji hand), some (ji (n : Int))] [] (rdF2 I m a n t hand σ ts n) P) :
    ∀ (j k : Nat), k + j = n → jJ E yX7_reads.cls cX7_reads 4 (some .boolean) (jRm d) Z 0 0 106 [some (jp m), some (ji (t : Int)), some (ji hand), some (ji (k : Int))] [] (rdF2 I m a n t hand σ ts k) P := by
  have e7 : ∀ k, rdF2 I m a n t hand σ ts k (a 7) ((t : Int).toNat) = (n : Int) := fun k => by
    rw [rdF2_x (hR.d (by decide) (by decide) (by decide)), Int.toNat_natCast]
    unfold rdF1
    rw [jput_a _ (hR.d (by decide) (by decide) (by decide)), jput_a _ (hR.d (by decide) (by decide) (by decide)), jput_s]
  intro j
  induction j with
  | zero =>
    intro k hk
    refine jJ_iload_n (pc := 106) dX7_reads_106 rfl ?_
    refine jJ_aload_n (pc := 107) dX7_reads_107 rfl ?_
    refine jJ_getr (pc := 108) dX7_reads_108 fX7_24 rfl hR.1 hR.p7 ?_
    try simp only [e7]
    refine jJ_iload_n (pc := 111) dX7_reads_111 rfl ?_
    refine jJ_iald (pc := 112) dX7_reads_112 hR.a7 ⟨by omega, by omega⟩ ?_
    try simp only [e7]
    refine jJ_icmp_ge (pc := 113) (tgt := 144) dX7_reads_113 (by decide) (fun c113 => ?_) (fun c113 => ?_)
    · rw [show k = n by omega]
      exact kk
    · exfalso
      omega
  | succ j ih =>
    intro k hk
    have e6 : rdF2 I m a n t hand σ ts k (a 6) (9600 + (k : Int)).toNat = I (a 6) (9600 + k) := by
      rw [show (9600 + (k : Int)).toNat = 9600 + k by omega]
      unfold rdF2
      rw [if_pos rfl, cpR_hi (by omega)]
    refine jJ_iload_n (pc := 106) dX7_reads_106 rfl ?_
    refine jJ_aload_n (pc := 107) dX7_reads_107 rfl ?_
    refine jJ_getr (pc := 108) dX7_reads_108 fX7_24 rfl hR.1 hR.p7 ?_
    try simp only [e7]
    refine jJ_iload_n (pc := 111) dX7_reads_111 rfl ?_
    refine jJ_iald (pc := 112) dX7_reads_112 hR.a7 ⟨by omega, by omega⟩ ?_
    try simp only [e7]
    refine jJ_icmp_ge (pc := 113) (tgt := 144) dX7_reads_113 (by decide) (fun c113 => ?_) (fun c113 => ?_)
    · exfalso
      omega
    · refine jJ_aload_n (pc := 116) dX7_reads_116 rfl ?_
      refine jJ_getr (pc := 117) dX7_reads_117 fX7_21 rfl hR.1 hR.p6 ?_
      try simp only [e6]
      refine jJ_sipush (pc := 120) dX7_reads_120 (by decide) ?_
      refine jJ_iload_n (pc := 123) dX7_reads_123 rfl ?_
      refine jJ_imul (pc := 124) dX7_reads_124 ⟨by omega, by omega⟩ ?_
      refine jJ_iload_n (pc := 125) dX7_reads_125 rfl ?_
      refine jJ_iadd (pc := 126) dX7_reads_126 ⟨by omega, by omega⟩ ?_
      refine jJ_aload_n (pc := 127) dX7_reads_127 rfl ?_
      refine jJ_getr (pc := 128) dX7_reads_128 fX7_21 rfl hR.1 hR.p6 ?_
      try simp only [e6]
      refine jJ_sipush (pc := 131) dX7_reads_131 (by decide) ?_
      refine jJ_iload_n (pc := 134) dX7_reads_134 rfl ?_
      refine jJ_iadd (pc := 135) dX7_reads_135 ⟨by omega, by omega⟩ ?_
      refine jJ_iald (pc := 136) dX7_reads_136 hR.a6 ⟨by omega, by omega⟩ ?_
      try simp only [e6]
      refine jJ_iast (pc := 137) dX7_reads_137 hR.a6 ⟨by omega, by omega⟩ ?_
      try simp only [e6]
      rw [show (800 * (t : Int) + (k : Int)).toNat = 800 * t + k by omega, rdF2_s (by omega)]
      refine jJ_iinc (pc := 138) (ls' := [_, _, _, _]) dX7_reads_138 rfl ⟨by omega, by omega⟩ rfl ?_
      refine jJ_goto (pc := 141) (tgt := 106) dX7_reads_141 (by decide) ?_
      exact ih (k + 1) (by omega)
theorem cp5_loop {Q : Option jV → jI → jP → Prop} {t : Nat} {hand : Int} {M : jI} {len : Nat} (hR : RfL E P m a) (hl : len ≤ 200) (ht : t < 12) (h9 : M (a 9) t = (len : Int)) (hq : Q (some (ji 1)) (c5 M a t len) P) :
    ∀ (j k : Nat), k + j = len → jJ E yX7_reads.cls cX7_reads 4 (some .boolean) (jRm d) (jZ E Q) 0 0 146 [some (jp m), some (ji (t : Int)), some (ji hand), some (ji (k : Int))] [] (c5 M a t k) P := by
  have d1 : ∀ {i j : Nat}, i ∈ rfK → j ∈ rfK → i ≠ j → a i ≠ a j := fun h1 h2 h3 => hR.d h1 h2 h3
  have e9 : ∀ k, c5 M a t k (a 9) ((t : Int).toNat) = (len : Int) := fun k => by
    have e11 := d1 (i := 9) (j := 11) (by decide) (by decide) (by decide)
    have e12 := d1 (i := 9) (j := 12) (by decide) (by decide) (by decide)
    have e13 := d1 (i := 9) (j := 13) (by decide) (by decide) (by decide)
    have e14 := d1 (i := 9) (j := 14) (by decide) (by decide) (by decide)
    have e15 := d1 (i := 9) (j := 15) (by decide) (by decide) (by decide)
    rw [c5_x (by simp [e11, e12, e13, e14, e15]), Int.toNat_natCast, h9]
  intro j
  induction j with
  | zero =>
    intro k hk
    refine jJ_iload_n (pc := 146) dX7_reads_146 rfl ?_
    refine jJ_aload_n (pc := 147) dX7_reads_147 rfl ?_
    refine jJ_getr (pc := 148) dX7_reads_148 fX7_30 rfl hR.1 hR.p9 ?_
    try simp only [e9]
    refine jJ_iload_n (pc := 151) dX7_reads_151 rfl ?_
    refine jJ_iald (pc := 152) dX7_reads_152 hR.a9 ⟨by omega, by omega⟩ ?_
    try simp only [e9]
    refine jJ_icmp_ge (pc := 153) (tgt := 272) dX7_reads_153 (by decide) (fun c153 => ?_) (fun c153 => ?_)
    · refine jJ_iconst (pc := 272) dX7_reads_272 (by decide) ?_
      refine jJ_zret (pc := 273) dX7_reads_273 rfl (Or.inr rfl) ?_
      rw [show k = len by omega]
      exact hq
    · exfalso
      omega
  | succ j ih =>
    intro k hk
    have er : ∀ b, (b = a 11 ∨ b = a 12 ∨ b = a 13 ∨ b = a 14 ∨ b = a 15) → c5 M a t k b (2412 + (k : Int)).toNat = M b (2412 + k) := fun b hb => by
      rw [c5_r hb, show (2412 + (k : Int)).toNat = 2412 + k by omega, cpR_hi (by omega)]
    have r11 := er (a 11) (by simp)
    have r12 := er (a 12) (by simp)
    have r13 := er (a 13) (by simp)
    have r14 := er (a 14) (by simp)
    have r15 := er (a 15) (by simp)
    have x12_11 := d1 (i := 12) (j := 11) (by decide) (by decide) (by decide)
    have x13_11 := d1 (i := 13) (j := 11) (by decide) (by decide) (by decide)
    have x13_12 := d1 (i := 13) (j := 12) (by decide) (by decide) (by decide)
    have x14_11 := d1 (i := 14) (j := 11) (by decide) (by decide) (by decide)
    have x14_12 := d1 (i := 14) (j := 12) (by decide) (by decide) (by decide)
    have x14_13 := d1 (i := 14) (j := 13) (by decide) (by decide) (by decide)
    have x15_11 := d1 (i := 15) (j := 11) (by decide) (by decide) (by decide)
    have x15_12 := d1 (i := 15) (j := 12) (by decide) (by decide) (by decide)
    have x15_13 := d1 (i := 15) (j := 13) (by decide) (by decide) (by decide)
    have x15_14 := d1 (i := 15) (j := 14) (by decide) (by decide) (by decide)
    refine jJ_iload_n (pc := 146) dX7_reads_146 rfl ?_
    refine jJ_aload_n (pc := 147) dX7_reads_147 rfl ?_
    refine jJ_getr (pc := 148) dX7_reads_148 fX7_30 rfl hR.1 hR.p9 ?_
    try simp only [e9]
    refine jJ_iload_n (pc := 151) dX7_reads_151 rfl ?_
    refine jJ_iald (pc := 152) dX7_reads_152 hR.a9 ⟨by omega, by omega⟩ ?_
    try simp only [e9]
    refine jJ_icmp_ge (pc := 153) (tgt := 272) dX7_reads_153 (by decide) (fun c153 => ?_) (fun c153 => ?_)
    · exfalso
      omega
    · refine jJ_aload_n (pc := 156) dX7_reads_156 rfl ?_
      refine jJ_getr (pc := 157) dX7_reads_157 fX7_36 rfl hR.1 hR.p11 ?_
      try simp only [r11]
      refine jJ_sipush (pc := 160) dX7_reads_160 (by decide) ?_
      refine jJ_iload_n (pc := 163) dX7_reads_163 rfl ?_
      refine jJ_imul (pc := 164) dX7_reads_164 ⟨by omega, by omega⟩ ?_
      refine jJ_iload_n (pc := 165) dX7_reads_165 rfl ?_
      refine jJ_iadd (pc := 166) dX7_reads_166 ⟨by omega, by omega⟩ ?_
      refine jJ_aload_n (pc := 167) dX7_reads_167 rfl ?_
      refine jJ_getr (pc := 168) dX7_reads_168 fX7_36 rfl hR.1 hR.p11 ?_
      try simp only [r11]
      refine jJ_sipush (pc := 171) dX7_reads_171 (by decide) ?_
      refine jJ_iload_n (pc := 174) dX7_reads_174 rfl ?_
      refine jJ_iadd (pc := 175) dX7_reads_175 ⟨by omega, by omega⟩ ?_
      refine jJ_iald (pc := 176) dX7_reads_176 hR.a11 ⟨by omega, by omega⟩ ?_
      try simp only [r11]
      refine jJ_iast (pc := 177) dX7_reads_177 hR.a11 ⟨by omega, by omega⟩ ?_
      try simp only [r11]
      refine jJ_aload_n (pc := 178) dX7_reads_178 rfl ?_
      refine jJ_getr (pc := 179) dX7_reads_179 fX7_39 rfl hR.1 hR.p12 ?_
      try simp only [jput_a _ x12_11, r12]
      refine jJ_sipush (pc := 182) dX7_reads_182 (by decide) ?_
      refine jJ_iload_n (pc := 185) dX7_reads_185 rfl ?_
      refine jJ_imul (pc := 186) dX7_reads_186 ⟨by omega, by omega⟩ ?_
      refine jJ_iload_n (pc := 187) dX7_reads_187 rfl ?_
      refine jJ_iadd (pc := 188) dX7_reads_188 ⟨by omega, by omega⟩ ?_
      refine jJ_aload_n (pc := 189) dX7_reads_189 rfl ?_
      refine jJ_getr (pc := 190) dX7_reads_190 fX7_39 rfl hR.1 hR.p12 ?_
      try simp only [jput_a _ x12_11, r12]
      refine jJ_sipush (pc := 193) dX7_reads_193 (by decide) ?_
      refine jJ_iload_n (pc := 196) dX7_reads_196 rfl ?_
      refine jJ_iadd (pc := 197) dX7_reads_197 ⟨by omega, by omega⟩ ?_
      refine jJ_iald (pc := 198) dX7_reads_198 hR.a12 ⟨by omega, by omega⟩ ?_
      try simp only [jput_a _ x12_11, r12]
      refine jJ_iast (pc := 199) dX7_reads_199 hR.a12 ⟨by omega, by omega⟩ ?_
      try simp only [jput_a _ x12_11, r12]
      refine jJ_aload_n (pc := 200) dX7_reads_200 rfl ?_
      refine jJ_getr (pc := 201) dX7_reads_201 fX7_42 rfl hR.1 hR.p13 ?_
      try simp only [jput_a _ x13_11, jput_a _ x13_12, r13]
      refine jJ_sipush (pc := 204) dX7_reads_204 (by decide) ?_
      refine jJ_iload_n (pc := 207) dX7_reads_207 rfl ?_
      refine jJ_imul (pc := 208) dX7_reads_208 ⟨by omega, by omega⟩ ?_
      refine jJ_iload_n (pc := 209) dX7_reads_209 rfl ?_
      refine jJ_iadd (pc := 210) dX7_reads_210 ⟨by omega, by omega⟩ ?_
      refine jJ_aload_n (pc := 211) dX7_reads_211 rfl ?_
      refine jJ_getr (pc := 212) dX7_reads_212 fX7_42 rfl hR.1 hR.p13 ?_
      try simp only [jput_a _ x13_11, jput_a _ x13_12, r13]
      refine jJ_sipush (pc := 215) dX7_reads_215 (by decide) ?_
      refine jJ_iload_n (pc := 218) dX7_reads_218 rfl ?_
      refine jJ_iadd (pc := 219) dX7_reads_219 ⟨by omega, by omega⟩ ?_
      refine jJ_iald (pc := 220) dX7_reads_220 hR.a13 ⟨by omega, by omega⟩ ?_
      try simp only [jput_a _ x13_11, jput_a _ x13_12, r13]
      refine jJ_iast (pc := 221) dX7_reads_221 hR.a13 ⟨by omega, by omega⟩ ?_
      try simp only [jput_a _ x13_11, jput_a _ x13_12, r13]
      refine jJ_aload_n (pc := 222) dX7_reads_222 rfl ?_
      refine jJ_getr (pc := 223) dX7_reads_223 fX7_45 rfl hR.1 hR.p14 ?_
      try simp only [jput_a _ x14_11, jput_a _ x14_12, jput_a _ x14_13, r14]
      refine jJ_sipush (pc := 226) dX7_reads_226 (by decide) ?_
      refine jJ_iload_n (pc := 229) dX7_reads_229 rfl ?_
      refine jJ_imul (pc := 230) dX7_reads_230 ⟨by omega, by omega⟩ ?_
      refine jJ_iload_n (pc := 231) dX7_reads_231 rfl ?_
      refine jJ_iadd (pc := 232) dX7_reads_232 ⟨by omega, by omega⟩ ?_
      refine jJ_aload_n (pc := 233) dX7_reads_233 rfl ?_
      refine jJ_getr (pc := 234) dX7_reads_234 fX7_45 rfl hR.1 hR.p14 ?_
      try simp only [jput_a _ x14_11, jput_a _ x14_12, jput_a _ x14_13, r14]
      refine jJ_sipush (pc := 237) dX7_reads_237 (by decide) ?_
      refine jJ_iload_n (pc := 240) dX7_reads_240 rfl ?_
      refine jJ_iadd (pc := 241) dX7_reads_241 ⟨by omega, by omega⟩ ?_
      refine jJ_iald (pc := 242) dX7_reads_242 hR.a14 ⟨by omega, by omega⟩ ?_
      try simp only [jput_a _ x14_11, jput_a _ x14_12, jput_a _ x14_13, r14]
      refine jJ_iast (pc := 243) dX7_reads_243 hR.a14 ⟨by omega, by omega⟩ ?_
      try simp only [jput_a _ x14_11, jput_a _ x14_12, jput_a _ x14_13, r14]
      refine jJ_aload_n (pc := 244) dX7_reads_244 rfl ?_
      refine jJ_getr (pc := 245) dX7_reads_245 fX7_48 rfl hR.1 hR.p15 ?_
      try simp only [jput_a _ x15_11, jput_a _ x15_12, jput_a _ x15_13, jput_a _ x15_14, r15]
      refine jJ_sipush (pc := 248) dX7_reads_248 (by decide) ?_
      refine jJ_iload_n (pc := 251) dX7_reads_251 rfl ?_
      refine jJ_imul (pc := 252) dX7_reads_252 ⟨by omega, by omega⟩ ?_
      refine jJ_iload_n (pc := 253) dX7_reads_253 rfl ?_
      refine jJ_iadd (pc := 254) dX7_reads_254 ⟨by omega, by omega⟩ ?_
      refine jJ_aload_n (pc := 255) dX7_reads_255 rfl ?_
      refine jJ_getr (pc := 256) dX7_reads_256 fX7_48 rfl hR.1 hR.p15 ?_
      try simp only [jput_a _ x15_11, jput_a _ x15_12, jput_a _ x15_13, jput_a _ x15_14, r15]
      refine jJ_sipush (pc := 259) dX7_reads_259 (by decide) ?_
      refine jJ_iload_n (pc := 262) dX7_reads_262 rfl ?_
      refine jJ_iadd (pc := 263) dX7_reads_263 ⟨by omega, by omega⟩ ?_
      refine jJ_iald (pc := 264) dX7_reads_264 hR.a15 ⟨by omega, by omega⟩ ?_
      try simp only [jput_a _ x15_11, jput_a _ x15_12, jput_a _ x15_13, jput_a _ x15_14, r15]
      refine jJ_iast (pc := 265) dX7_reads_265 hR.a15 ⟨by omega, by omega⟩ ?_
      try simp only [jput_a _ x15_11, jput_a _ x15_12, jput_a _ x15_13, jput_a _ x15_14, r15]
      rw [show (201 * (t : Int) + (k : Int)).toNat = 201 * t + k by omega]
      refine jJ_I (c5_s hR (by omega)) ?_
      refine jJ_iinc (pc := 266) (ls' := [_, _, _, _]) dX7_reads_266 rfl ⟨by omega, by omega⟩ rfl ?_
      refine jJ_goto (pc := 269) (tgt := 146) dX7_reads_269 (by decide) ?_
      exact ih (k + 1) (by omega)
/-- what comes of reads() -/
def rdQ (I : jI) (m : Nat) (a : Nat → Nat) (P : jP) (n t : Nat) (hand : Int) (W : RdRes) : Option jV → jI → jP → Prop := fun v I' P' => P' = P ∧ ((v = some (ji 1) ∧ W.1 = 0 ∧ ∃ σ, σ 3 = I m 3 ∧ σ 4 = I m 4 ∧ σ 10 = W.2.1 6 ∧ I' = rdF I m a n t hand σ W.2.2.2.1) ∨ (v = some (ji 0) ∧ ∃ σ tf, GF (I m 3) (I m 4) W σ ∧ I' = rfM I m a σ tf))
theorem reads_loop {t : Nat} {hand : Int} {W : RdRes} (hR : RfL E P m a) (hn : I (a 7) 12 = (n : Int)) (hn2 : n ≤ 800) (hg : ∀ k, k < n → 0 ≤ gB I a k ∧ gB I a k ≤ 255) (ht : t < 12) (hd : 36 ≤ d) :
    ∀ (k : Nat) (s1 r1 : Nat → Int) (ts1 : List T5), 201 - ts1.length ≤ k → W = Nn (gB I a) n s1 r1 ts1 → Ok s1 ts1 → (s1 4 = 0 ∨ (s1 4 = 1 ∧ tkG (gB I a) n (s1 9).toNat ≠ 4)) → s1 1 = 0 →
      jJ E yX7_reads.cls cX7_reads 4 (some .boolean) (jRm d) (jZ E (rdQ I m a P n t hand W)) 0 0 35 [some (jp m), some (ji (t : Int)), some (ji hand), none] [] (rfM I m a (mS (gB I a) n (I m 3) (I m 4) s1) ts1) P := by
  have d1 : ∀ {i j : Nat}, i ∈ rfK → j ∈ rfK → i ≠ j → a i ≠ a j := fun h1 h2 h3 => hR.d h1 h2 h3
  intro k
  induction k with
  | zero =>
    intro s1 r1 ts1 hk e hO
    exfalso
    have := hO.2
    omega
  | succ k ih =>
    intro s1 r1 ts1 hk e hO h4 h1
    have hz1 : tkG (gB I a) n (s1 9).toNat = 8 → tkE (gB I a) n (s1 9).toNat = tkS (gB I a) n (s1 9).toNat := tk_end
    have hz2 : tkG (gB I a) n (s1 9).toNat ≠ 8 → tkS (gB I a) n (s1 9).toNat < tkE (gB I a) n (s1 9).toNat := fun z => (tk_in z).2.1
    have m24 : mS (gB I a) n (I m 3) (I m 4) s1 24 = (tkE (gB I a) n (s1 9).toNat : Int) - (tkS (gB I a) n (s1 9).toNat : Int) := rfl
    have hri : rInner s1 r1 = -1 := by unfold rInner; rw [if_neg (by omega)]
    refine jJ_aload_n (pc := 35) dX7_reads_35 rfl ?_
    refine jJ_geti (pc := 36) dX7_reads_36 fX7_98 rfl hR.1 ?_
    try simp only [rfM_g24, m24]
    refine jJ_if_le (pc := 39) (tgt := 51) dX7_reads_39 (by decide) (fun c39 => ?_) (fun c39 => ?_)
    · have h8 : tkG (gB I a) n (s1 9).toNat = 8 := by omega
      have hW : W = (0, scS (gB I a) n s1, r1, ts1, true) := by
        rw [e, Nn, show 201 - ts1.length = (200 - ts1.length) + 1 by have := hO.2; omega, rdGo, if_pos (show scS (gB I a) n s1 10 = 8 from h8), if_pos (show scS (gB I a) n s1 1 = 0 ∧ (scS (gB I a) n s1 4 = 0 ∨ scS (gB I a) n s1 4 = 1) from ⟨h1, h4.imp id (fun z => z.1)⟩)]
      have x5_8 := d1 (i := 8) (j := 5) (by decide) (by decide) (by decide)
      have x7_8 := d1 (i := 7) (j := 8) (by decide) (by decide) (by decide)
      have x7_5 := d1 (i := 7) (j := 5) (by decide) (by decide) (by decide)
      have x9_5 := d1 (i := 9) (j := 5) (by decide) (by decide) (by decide)
      have x9_8 := d1 (i := 9) (j := 8) (by decide) (by decide) (by decide)
      have x9_7 := d1 (i := 9) (j := 7) (by decide) (by decide) (by decide)
      have x10_5 := d1 (i := 10) (j := 5) (by decide) (by decide) (by decide)
      have x10_8 := d1 (i := 10) (j := 8) (by decide) (by decide) (by decide)
      have x10_7 := d1 (i := 10) (j := 7) (by decide) (by decide) (by decide)
      have x10_9 := d1 (i := 10) (j := 9) (by decide) (by decide) (by decide)
      have e7 : rfM I m a (mS (gB I a) n (I m 3) (I m 4) s1) ts1 (a 7) ((12 : Int).toNat) = (n : Int) := by rw [rfM_7 hR]; exact hn
      have e9 : rfM I m a (mS (gB I a) n (I m 3) (I m 4) s1) ts1 (a 9) ((12 : Int).toNat) = (ts1.length : Int) := rfM_9 hR
      have e10 : rfM I m a (mS (gB I a) n (I m 3) (I m 4) s1) ts1 (a 10) ((12 : Int).toNat) = s1 6 := rfM_10 hR
      refine jJ_aload_n (pc := 51) dX7_reads_51 rfl ?_
      refine jJ_getr (pc := 52) dX7_reads_52 fX7_17 rfl hR.1 hR.p5 ?_
      refine jJ_iload_n (pc := 55) dX7_reads_55 rfl ?_
      refine jJ_iconst (pc := 56) dX7_reads_56 (by decide) ?_
      refine jJ_zast (pc := 57) dX7_reads_57 hR.a5 ⟨by omega, by omega⟩ (by decide) ?_
      refine jJ_aload_n (pc := 58) dX7_reads_58 rfl ?_
      refine jJ_getr (pc := 59) dX7_reads_59 fX7_27 rfl hR.1 hR.p8 ?_
      refine jJ_iload_n (pc := 62) dX7_reads_62 rfl ?_
      refine jJ_iload_n (pc := 63) dX7_reads_63 rfl ?_
      refine jJ_iast (pc := 64) dX7_reads_64 hR.a8 ⟨by omega, by omega⟩ ?_
      refine jJ_aload_n (pc := 65) dX7_reads_65 rfl ?_
      refine jJ_getr (pc := 66) dX7_reads_66 fX7_24 rfl hR.1 hR.p7 ?_
      try simp only [jput_a _ x7_8, jput_a _ x7_5, e7]
      refine jJ_iload_n (pc := 69) dX7_reads_69 rfl ?_
      refine jJ_aload_n (pc := 70) dX7_reads_70 rfl ?_
      refine jJ_getr (pc := 71) dX7_reads_71 fX7_24 rfl hR.1 hR.p7 ?_
      try simp only [jput_a _ x7_8, jput_a _ x7_5, e7]
      refine jJ_bipush (pc := 74) dX7_reads_74 (by decide) ?_
      refine jJ_iald (pc := 76) dX7_reads_76 hR.a7 ⟨by omega, by omega⟩ ?_
      try simp only [jput_a _ x7_8, jput_a _ x7_5, e7]
      refine jJ_iast (pc := 77) dX7_reads_77 hR.a7 ⟨by omega, by omega⟩ ?_
      try simp only [jput_a _ x7_8, jput_a _ x7_5, e7]
      refine jJ_aload_n (pc := 78) dX7_reads_78 rfl ?_
      refine jJ_getr (pc := 79) dX7_reads_79 fX7_30 rfl hR.1 hR.p9 ?_
      try simp only [jput_a _ x9_5, jput_a _ x9_8, jput_a _ x9_7, e9]
      refine jJ_iload_n (pc := 82) dX7_reads_82 rfl ?_
      refine jJ_aload_n (pc := 83) dX7_reads_83 rfl ?_
      refine jJ_getr (pc := 84) dX7_reads_84 fX7_30 rfl hR.1 hR.p9 ?_
      try simp only [jput_a _ x9_5, jput_a _ x9_8, jput_a _ x9_7, e9]
      refine jJ_bipush (pc := 87) dX7_reads_87 (by decide) ?_
      refine jJ_iald (pc := 89) dX7_reads_89 hR.a9 ⟨by omega, by omega⟩ ?_
      try simp only [jput_a _ x9_5, jput_a _ x9_8, jput_a _ x9_7, e9]
      refine jJ_iast (pc := 90) dX7_reads_90 hR.a9 ⟨by omega, by omega⟩ ?_
      try simp only [jput_a _ x9_5, jput_a _ x9_8, jput_a _ x9_7, e9]
      refine jJ_aload_n (pc := 91) dX7_reads_91 rfl ?_
      refine jJ_getr (pc := 92) dX7_reads_92 fX7_33 rfl hR.1 hR.p10 ?_
      try simp only [jput_a _ x10_5, jput_a _ x10_8, jput_a _ x10_7, jput_a _ x10_9, e10]
      refine jJ_iload_n (pc := 95) dX7_reads_95 rfl ?_
      refine jJ_aload_n (pc := 96) dX7_reads_96 rfl ?_
      refine jJ_getr (pc := 97) dX7_reads_97 fX7_33 rfl hR.1 hR.p10 ?_
      try simp only [jput_a _ x10_5, jput_a _ x10_8, jput_a _ x10_7, jput_a _ x10_9, e10]
      refine jJ_bipush (pc := 100) dX7_reads_100 (by decide) ?_
      refine jJ_iald (pc := 102) dX7_reads_102 hR.a10 ⟨by omega, by omega⟩ ?_
      try simp only [jput_a _ x10_5, jput_a _ x10_8, jput_a _ x10_7, jput_a _ x10_9, e10]
      refine jJ_iast (pc := 103) dX7_reads_103 hR.a10 ⟨by omega, by omega⟩ ?_
      try simp only [jput_a _ x10_5, jput_a _ x10_8, jput_a _ x10_7, jput_a _ x10_9, e10]
      refine jJ_iconst (pc := 104) dX7_reads_104 (by decide) ?_
      refine jJ_istore_n (pc := 105) (ls' := [_, _, _, _]) dX7_reads_105 (Nat.le_of_ble_eq_true rfl) rfl ?_
      rw [Int.toNat_natCast]
      refine jJ_I (show _ = rdF2 I m a n t hand (mS (gB I a) n (I m 3) (I m 4) s1) ts1 0 by rw [rdF2_0 hR]; rfl) ?_
      refine cp1_loop hR hn2 ht ?_ n 0 (by omega)
      refine jJ_iconst (pc := 144) dX7_reads_144 (by decide) ?_
      refine jJ_istore_n (pc := 145) (ls' := [_, _, _, _]) dX7_reads_145 (Nat.le_of_ble_eq_true rfl) rfl ?_
      refine jJ_I (show _ = c5 (rdF2 I m a n t hand (mS (gB I a) n (I m 3) (I m 4) s1) ts1 n) a t 0 from c5_0.symm) ?_
      refine cp5_loop hR hO.2 ht ?_ ?_ ts1.length 0 (by omega)
      · rw [rdF2_x (hR.d (by decide) (by decide) (by decide))]
        unfold rdF1
        rw [jput_a _ (hR.d (by decide) (by decide) (by decide)), jput_s]
      · rw [hW]
        exact ⟨rfl, Or.inl ⟨rfl, rfl, mS (gB I a) n (I m 3) (I m 4) s1, rfl, rfl, rfl, rfl⟩⟩
    · have h8 : tkG (gB I a) n (s1 9).toNat ≠ 8 := by omega
      refine jJ_aload_n (pc := 42) dX7_reads_42 rfl ?_
      refine jJ_callG (pc := 43) (as := []) dX7_reads_43 mX7_188 (jRcv_of hR.1 rfl rfl) (Nat.le_of_ble_eq_true rfl) (jRm_ok (by omega) (by decide)) (g_statement hR hn hn2 hg 6 s1 r1 ts1 (d - 1) hO h4 (by omega) (by omega) (fun _ => hri) (fun z => absurd z h8) (by omega) (by omega)) (fun sx rx tsx ex ox hx => ?_) (fun σx tfx fx => ?_)
      · refine jJ_if_ne (pc := 46) (tgt := 35) dX7_reads_46 (by decide) (fun c46 => ?_) (fun c46 => ?_)
        · obtain ⟨b4, b1, b2, bj, bl⟩ := hx
          exact ih sx rx tsx (by omega) (e.trans ex) ox b4 (by omega)
        · exact absurd c46 (by decide)
      · refine jJ_if_ne (pc := 46) (tgt := 35) dX7_reads_46 (by decide) (fun c46 => ?_) (fun c46 => ?_)
        · exact absurd rfl c46
        · refine jJ_iconst (pc := 49) dX7_reads_49 (by decide) ?_
          refine jJ_zret (pc := 50) dX7_reads_50 rfl (Or.inl rfl) ?_
          exact ⟨rfl, Or.inr ⟨rfl, σx, tfx, e ▸ fx, rfl⟩⟩
theorem rdS0_ok (h : Nat → Int) : Ok (rdS0 h) [] := by
  refine ⟨⟨?_, ?_, ?_, rfl, ?_, ?_⟩, by decide⟩
  · show (0 : Int) ≤ 0 ∧ (0 : Int) ≤ 6; decide
  · show -((0 : Nat) : Int) ≤ 0 ∧ (0 : Int) ≤ ((0 : Nat) : Int); decide
  · show (0 : Int) ≤ 0 ∧ (0 : Int) ≤ ((0 : Nat) : Int); decide
  · intro z; exact absurd z (by show ¬ (0 : Int) = 5; decide)
  · show (0 : Int) ≤ 0 ∧ (0 : Int) ≤ 800; decide
theorem r_reads {t : Nat} {hand : Int} {h0 r0 : Nat → Int} (hR : RfL E P m a) (hn : I (a 7) 12 = (n : Int)) (hn2 : n ≤ 800) (hg : ∀ k, k < n → 0 ≤ gB I a k ∧ gB I a k ≤ 255) (ht : t < 12) (hd : 36 ≤ d) :
    jC E yX7_reads cX7_reads 4 (some .boolean) d [jp m, ji (t : Int), ji hand] I P (rdQ I m a P n t hand (rdGo (gB I a) n 201 (rdS0 h0) r0 [])) := by
  have n9 := hR.n9
  have n10 := hR.n10
  have x10_9 : a 10 ≠ a 9 := hR.d (by decide) (by decide) (by decide)
  refine jC_intro (by decide +kernel) (by simp [jc, va_rf, Value.category]) (Nat.le_of_ble_eq_true rfl) ?_
  refine jJ_aload_n (pc := 0) dX7_reads_0 rfl ?_
  refine jJ_iconst (pc := 1) dX7_reads_1 (by decide) ?_
  refine jJ_puti (pc := 2) dX7_reads_2 fX7_88w rfl ⟨rfl, rfl⟩ hR.1 ?_
  refine jJ_aload_n (pc := 5) dX7_reads_5 rfl ?_
  refine jJ_iconst (pc := 6) dX7_reads_6 (by decide) ?_
  refine jJ_puti (pc := 7) dX7_reads_7 fX7_153w rfl ⟨rfl, rfl⟩ hR.1 ?_
  refine jJ_aload_n (pc := 10) dX7_reads_10 rfl ?_
  refine jJ_iconst (pc := 11) dX7_reads_11 (by decide) ?_
  refine jJ_puti (pc := 12) dX7_reads_12 fX7_158w rfl ⟨rfl, rfl⟩ hR.1 ?_
  refine jJ_aload_n (pc := 15) dX7_reads_15 rfl ?_
  refine jJ_getr (pc := 16) dX7_reads_16 fX7_30 rfl hR.1 hR.p9 ?_
  refine jJ_bipush (pc := 19) dX7_reads_19 (by decide) ?_
  refine jJ_iconst (pc := 21) dX7_reads_21 (by decide) ?_
  refine jJ_iast (pc := 22) dX7_reads_22 hR.a9 ⟨by omega, by omega⟩ ?_
  refine jJ_aload_n (pc := 23) dX7_reads_23 rfl ?_
  refine jJ_getr (pc := 24) dX7_reads_24 fX7_33 rfl hR.1 hR.p10 ?_
  refine jJ_bipush (pc := 27) dX7_reads_27 (by decide) ?_
  refine jJ_iconst (pc := 29) dX7_reads_29 (by decide) ?_
  refine jJ_iast (pc := 30) dX7_reads_30 hR.a10 ⟨by omega, by omega⟩ ?_
  refine jJ_I (show _ = rfM I m a (su (su (su (su (I m) 22 0) 26 0) 27 0) 10 0) [] from ?_) ?_
  · show jput (jput (jput (jput (jput I m 22 0) m 26 0) m 27 0) (a 9) 12 0) (a 10) 12 0 = _
    funext b j
    by_cases hb : b = m
    · subst hb
      rw [jput_a _ (Ne.symm n10), jput_a _ (Ne.symm n9)]
      by_cases q : j = 3 ∨ j = 4 ∨ (22 ≤ j ∧ j ≤ 27)
      · rw [rfM_g q, su_at, if_neg (by omega)]
        simp only [jput, true_and, su_at]
      · unfold rfM
        rw [if_neg (fun z => q z.2), jput_k _ (by omega), jput_k _ (by omega), jput_k _ (by omega)]
        simp [Ne.symm n9, Ne.symm n10, Ne.symm hR.n11, Ne.symm hR.n12, Ne.symm hR.n13, Ne.symm hR.n14, Ne.symm hR.n15]
    · by_cases h10 : b = a 10
      · subst h10
        by_cases q : j = 12
        · subst q
          rw [rfM_10 hR]
          exact jput_s _ _ _ _
        · rw [jput_k _ q, jput_a _ x10_9, jput_a _ hb, jput_a _ hb, jput_a _ hb]
          unfold rfM
          have e11 : a 10 ≠ a 11 := hR.d (by decide) (by decide) (by decide)
          have e12 : a 10 ≠ a 12 := hR.d (by decide) (by decide) (by decide)
          have e13 : a 10 ≠ a 13 := hR.d (by decide) (by decide) (by decide)
          have e14 : a 10 ≠ a 14 := hR.d (by decide) (by decide) (by decide)
          have e15 : a 10 ≠ a 15 := hR.d (by decide) (by decide) (by decide)
          simp [hb, x10_9, q, e11, e12, e13, e14, e15]
      · rw [jput_a _ h10]
        by_cases h9 : b = a 9
        · subst h9
          by_cases q : j = 12
          · subst q
            rw [rfM_9 hR]
            exact jput_s _ _ _ _
          · rw [jput_k _ q, jput_a _ hb, jput_a _ hb, jput_a _ hb]
            unfold rfM
            have e11 : a 9 ≠ a 11 := hR.d (by decide) (by decide) (by decide)
            have e12 : a 9 ≠ a 12 := hR.d (by decide) (by decide) (by decide)
            have e13 : a 9 ≠ a 13 := hR.d (by decide) (by decide) (by decide)
            have e14 : a 9 ≠ a 14 := hR.d (by decide) (by decide) (by decide)
            have e15 : a 9 ≠ a 15 := hR.d (by decide) (by decide) (by decide)
            simp [hb, h10, q, e11, e12, e13, e14, e15]
        · rw [jput_a _ h9, jput_a _ hb, jput_a _ hb, jput_a _ hb]
          have ew : ∀ h : T5 → Int, rwT h [] (I b) j = I b j := fun h => by unfold rwT; rw [if_neg (by simp)]
          simp only [rfM, hb, h9, h10, false_and, if_false, ew]
          (repeat' split) <;> rfl
  refine jJ_aload_n (pc := 31) dX7_reads_31 rfl ?_
  refine jJ_callVd (pc := 32) (as := []) dX7_reads_32 mX7_163 (jRcv_of hR.1 rfl rfl) (Nat.le_of_ble_eq_true rfl) (jRm_ok (by omega) (by decide)) (r_look (d := d - 1) hR hn hn2 hg (by show (0 : Int) ≤ 0 ∧ (0 : Int) ≤ 800; decide) (by omega)) ?_
  refine jJ_I (show _ = rfM I m a (mS (gB I a) n (I m 3) (I m 4) (rdS0 h0)) [] from rfM_cg (fun k hk => ?_)) ?_
  · have q : k = 3 ∨ k = 4 ∨ k = 10 ∨ k = 22 ∨ k = 23 ∨ k = 24 ∨ k = 25 ∨ k = 26 ∨ k = 27 := by omega
    rcases q with rfl | rfl | rfl | rfl | rfl | rfl | rfl | rfl | rfl <;> rfl
  exact reads_loop hR hn hn2 hg ht hd _ (rdS0 h0) r0 [] (Nat.le_refl _) rfl (rdS0_ok h0) (Or.inl rfl) rfl
end JRR
