section JRF
variable {E : jE} {I : jI} {P : jP} {d m t i : Nat} {a : Nat → Nat} {x : TX}
/-- a sum over the groups of gaps -/
def grp (J : jI) (a : Nat → Nat) (f : Int → Int → Int → Int) : Nat → Int
  | 0 => 0
  | k + 1 => grp J a f k + (J (a 30) (4 * k) * f (J (a 28) k) (J (a 29) k) 0 + J (a 30) (4 * k + 1) * f (J (a 28) k) (J (a 29) k) 1 + J (a 30) (4 * k + 2) * f (J (a 28) k) (J (a 29) k) 2 + J (a 30) (4 * k + 3) * f (J (a 28) k) (J (a 29) k) 3)
/-- a sum over the gaps of a kind, k of a TEXT's from i on -/
def sG (f : Int → Int → Int → Int) (x : TX) (kd : Int) : Nat → Nat → Int
  | _, 0 => 0
  | i, k + 1 => (if xKd x i = kd then f (xTs x i) (jb (kd = 15)) (xCh x i) else 0) + sG f x kd (i + 1) k
def sT (f : Int → Int → Int → Int) (th : Nat → Int) (X : Nat → TX) (kd : Int) : Nat → Nat → Int
  | _, 0 => 0
  | t, k + 1 => (if th t ≠ 0 then sG f (X t) kd 0 ((xT (X t)).length - 1) else 0) + sT f th X kd (t + 1) k
/-- the gathered groups: their sums are those of the gaps so far (n at most) -/
def GI (J : jI) (m : Nat) (a : Nat → Nat) (n : Nat) (F : (Int → Int → Int → Int) → Int) : Prop := ∃ K : Nat, J m 31 = (K : Int) ∧ K ≤ n ∧ (∀ k, k < 4 * K → 0 ≤ J (a 30) k ∧ J (a 30) k ≤ n) ∧ ∀ f, grp J a f K = F f
/-- only what is gathered has changed -/
def gF (I : jI) (m : Nat) (a : Nat → Nat) (I' : jI) : Prop := (∀ b, b ≠ m → b ≠ a 28 → b ≠ a 29 → b ≠ a 30 → I' b = I b) ∧ ∀ k, k ≠ 31 → I' m k = I m k
theorem gF.rf : gF I m a I := ⟨fun _ _ _ _ _ => rfl, fun _ _ => rfl⟩
theorem gF.tr {J K : jI} (h1 : gF I m a J) (h2 : gF J m a K) : gF I m a K := ⟨fun b x y z w => (h2.1 b x y z w).trans (h1.1 b x y z w), fun k x => (h2.2 k x).trans (h1.2 k x)⟩
theorem gF.row {J : jI} {j : Nat} (h : gF I m a J) (hR : RfL E P m a) (hj : j ∈ rfK) (h1 : j < 28 ∨ 30 < j) : J (a j) = I (a j) := h.1 _ (hR.nm hj) (hR.d hj (by decide) (by omega)) (hR.d hj (by decide) (by omega)) (hR.d hj (by decide) (by omega))
theorem gF.rt {J : jI} (h : gF I m a J) (hR : RfL E P m a) (hT : RT I a t x) : RT J a t x := hT.cg (fun j h1 h2 => h.row hR (rfK_515 j (by omega) h2) (by omega))
theorem gF.p {j k : Nat} {v : Int} (hR : RfL E P m a) (hj : j = 28 ∨ j = 29 ∨ j = 30) : gF I m a (jput I (a j) k v) := by
  have hjk : j ∈ rfK := by rcases hj with rfl | rfl | rfl <;> decide
  refine ⟨fun b h1 h2 h3 h4 => ?_, fun i _ => jput_a _ (Ne.symm (hR.nm hjk))⟩
  funext i
  refine jput_a _ ?_
  rcases hj with rfl | rfl | rfl <;> assumption
theorem gF.pm {v : Int} : gF I m a (jput I m 31 v) := ⟨fun b h1 _ _ _ => by funext i; exact jput_a _ h1, fun k h => jput_k _ h⟩
theorem grp_cg {J K : jI} {f : Int → Int → Int → Int} : ∀ n : Nat, (∀ k, k < n → J (a 28) k = K (a 28) k ∧ J (a 29) k = K (a 29) k) → (∀ k, k < 4 * n → J (a 30) k = K (a 30) k) → grp J a f n = grp K a f n
  | 0, _, _ => rfl
  | n + 1, h1, h2 => by
    simp only [grp]
    rw [grp_cg n (fun k hk => h1 k (by omega)) (fun k hk => h2 k (by omega)), (h1 n (by omega)).1, (h1 n (by omega)).2, h2 (4 * n) (by omega), h2 (4 * n + 1) (by omega), h2 (4 * n + 2) (by omega), h2 (4 * n + 3) (by omega)]
/-- one more gap in the group k -/
theorem grp_inc {J : jI} {f : Int → Int → Int → Int} {k c : Nat} (hR : RfL E P m a) (hc : c < 4) : ∀ n : Nat, k < n → grp (jput J (a 30) (4 * k + c) (J (a 30) (4 * k + c) + 1)) a f n = grp J a f n + f (J (a 28) k) (J (a 29) k) (c : Int)
  | 0, h => absurd h (by omega)
  | n + 1, h => by
    have x28 : a 28 ≠ a 30 := hR.d (by decide) (by decide) (by decide)
    have x29 : a 29 ≠ a 30 := hR.d (by decide) (by decide) (by decide)
    simp only [grp, jput_a _ x28, jput_a _ x29]
    by_cases q : k = n
    · subst q
      have e : grp (jput J (a 30) (4 * k + c) (J (a 30) (4 * k + c) + 1)) a f k = grp J a f k := grp_cg k (fun j _ => by rw [jput_a _ x28, jput_a _ x29]; exact ⟨rfl, rfl⟩) (fun j hj => jput_k _ (by omega))
      rw [e]
      have hq : c = 0 ∨ c = 1 ∨ c = 2 ∨ c = 3 := by omega
      rcases hq with rfl | rfl | rfl | rfl
      · rw [Nat.add_zero, jput_s, jput_k _ (by omega), jput_k _ (by omega), jput_k _ (by omega), Int.add_mul]
        simp only [Int.one_mul, show ((0 : Nat) : Int) = 0 from rfl]
        omega
      · rw [jput_k _ (by omega), jput_s, jput_k _ (by omega), jput_k _ (by omega), Int.add_mul]
        simp only [Int.one_mul, show ((1 : Nat) : Int) = 1 from rfl]
        omega
      · rw [jput_k _ (by omega), jput_k _ (by omega), jput_s, jput_k _ (by omega), Int.add_mul]
        simp only [Int.one_mul, show ((2 : Nat) : Int) = 2 from rfl]
        omega
      · rw [jput_k _ (by omega), jput_k _ (by omega), jput_k _ (by omega), jput_s, Int.add_mul]
        simp only [Int.one_mul, show ((3 : Nat) : Int) = 3 from rfl]
        omega
    · rw [grp_inc hR hc n (by omega), jput_k _ (by omega), jput_k _ (by omega), jput_k _ (by omega), jput_k _ (by omega)]
      omega
/-- the group of these bits, or where a new one begins -/
theorem gath_seek {J : jI} {kd b p : Int} {K : Nat} {Z : Code → List Frame → Array Value → State → State → Prop} {t' i' : Int} {z7 : Option jV} (hR : RfL E P m a) (h31 : J m 31 = (K : Int)) (hK : K < 2400) (kk : ∀ k, k ≤ K → (k < K → J (a 28) k = b ∧ J (a 29) k = p) → jJ E yX7_gathers.cls cX7_gathers 8 none (jRm d) Z 0 0 115 [some (jp m), some (ji kd), some (ji t'), some (ji i'), some (ji b), some (ji p), some (ji (k : Int)), z7] [] J P) :
    ∀ (r k : Nat), k + r = K → jJ E yX7_gathers.cls cX7_gathers 8 none (jRm d) Z 0 0 76 [some (jp m), some (ji kd), some (ji t'), some (ji i'), some (ji b), some (ji p), some (ji (k : Int)), z7] [] J P := by
  intro r
  induction r with
  | zero =>
    intro k hk
    refine jJ_iload (pc := 76) dX7_gathers_76 rfl ?_
    refine jJ_aload_n (pc := 78) dX7_gathers_78 rfl ?_
    refine jJ_geti (pc := 79) dX7_gathers_79 fX7_235 rfl hR.1 ?_
    try simp only [h31]
    refine jJ_icmp_ge (pc := 82) (tgt := 115) dX7_gathers_82 (by decide) (fun c82 => ?_) (fun c82 => ?_)
    · exact kk k (by omega) (fun z => by omega)
    · exfalso
      omega
  | succ r ih =>
    intro k hk
    refine jJ_iload (pc := 76) dX7_gathers_76 rfl ?_
    refine jJ_aload_n (pc := 78) dX7_gathers_78 rfl ?_
    refine jJ_geti (pc := 79) dX7_gathers_79 fX7_235 rfl hR.1 ?_
    try simp only [h31]
    refine jJ_icmp_ge (pc := 82) (tgt := 115) dX7_gathers_82 (by decide) (fun c82 => ?_) (fun c82 => ?_)
    · exfalso
      omega
    · refine jJ_aload_n (pc := 85) dX7_gathers_85 rfl ?_
      refine jJ_getr (pc := 86) dX7_gathers_86 fX7_63 rfl hR.1 hR.p28 ?_
      try simp only [Int.toNat_natCast]
      refine jJ_iload (pc := 89) dX7_gathers_89 rfl ?_
      refine jJ_iald (pc := 91) dX7_gathers_91 hR.a28 ⟨by omega, by omega⟩ ?_
      try simp only [Int.toNat_natCast]
      refine jJ_iload (pc := 92) dX7_gathers_92 rfl ?_
      refine jJ_icmp_ne (pc := 94) (tgt := 109) dX7_gathers_94 (by decide) (fun c94 => ?_) (fun c94 => ?_)
      · refine jJ_iinc (pc := 109) (ls' := [_, _, _, _, _, _, _, _]) dX7_gathers_109 rfl ⟨by omega, by omega⟩ rfl ?_
        refine jJ_goto (pc := 112) (tgt := 76) dX7_gathers_112 (by decide) ?_
        exact ih (k + 1) (by omega)
      · refine jJ_aload_n (pc := 97) dX7_gathers_97 rfl ?_
        refine jJ_getr (pc := 98) dX7_gathers_98 fX7_66 rfl hR.1 hR.p29 ?_
        try simp only [Int.toNat_natCast]
        refine jJ_iload (pc := 101) dX7_gathers_101 rfl ?_
        refine jJ_iald (pc := 103) dX7_gathers_103 hR.a29 ⟨by omega, by omega⟩ ?_
        try simp only [Int.toNat_natCast]
        refine jJ_iload (pc := 104) dX7_gathers_104 rfl ?_
        refine jJ_icmp_eq (pc := 106) (tgt := 115) dX7_gathers_106 (by decide) (fun c106 => ?_) (fun c106 => ?_)
        · exact kk k (by omega) (fun _ => ⟨by assumption, by assumption⟩)
        · refine jJ_iinc (pc := 109) (ls' := [_, _, _, _, _, _, _, _]) dX7_gathers_109 rfl ⟨by omega, by omega⟩ rfl ?_
          refine jJ_goto (pc := 112) (tgt := 76) dX7_gathers_112 (by decide) ?_
          exact ih (k + 1) (by omega)
theorem gath_zero {J : jI} {kd b p : Int} {k : Nat} {Z : Code → List Frame → Array Value → State → State → Prop} {t' i' : Int} (hR : RfL E P m a) (hk : k < 2400) (kk : ∀ J' z, (∀ c, c ≠ a 30 → J' c = J c) → (∀ j, j < 4 * k → J' (a 30) j = J (a 30) j) → (∀ c, c < 4 → J' (a 30) (4 * k + c) = 0) → jJ E yX7_gathers.cls cX7_gathers 8 none (jRm d) Z 0 0 170 [some (jp m), some (ji kd), some (ji t'), some (ji i'), some (ji b), some (ji p), some (ji (k : Int)), z] [] J' P) :
    ∀ (r c : Nat) (J' : jI), c + r = 4 → (∀ c, c ≠ a 30 → J' c = J c) → (∀ j, j < 4 * k → J' (a 30) j = J (a 30) j) → (∀ e, e < c → J' (a 30) (4 * k + e) = 0) → jJ E yX7_gathers.cls cX7_gathers 8 none (jRm d) Z 0 0 145 [some (jp m), some (ji kd), some (ji t'), some (ji i'), some (ji b), some (ji p), some (ji (k : Int)), some (ji (c : Int))] [] J' P := by
  intro r
  induction r with
  | zero =>
    intro c J' hc h1 h2 h3
    refine jJ_iload (pc := 145) dX7_gathers_145 rfl ?_
    refine jJ_iconst (pc := 147) dX7_gathers_147 (by decide) ?_
    refine jJ_icmp_ge (pc := 148) (tgt := 170) dX7_gathers_148 (by decide) (fun c148 => ?_) (fun c148 => ?_)
    · exact kk J' _ h1 h2 (fun e he => h3 e (by omega))
    · exfalso
      omega
  | succ r ih =>
    intro c J' hc h1 h2 h3
    refine jJ_iload (pc := 145) dX7_gathers_145 rfl ?_
    refine jJ_iconst (pc := 147) dX7_gathers_147 (by decide) ?_
    refine jJ_icmp_ge (pc := 148) (tgt := 170) dX7_gathers_148 (by decide) (fun c148 => ?_) (fun c148 => ?_)
    · exfalso
      omega
    · refine jJ_aload_n (pc := 151) dX7_gathers_151 rfl ?_
      refine jJ_getr (pc := 152) dX7_gathers_152 fX7_69 rfl hR.1 hR.p30 ?_
      refine jJ_iconst (pc := 155) dX7_gathers_155 (by decide) ?_
      refine jJ_iload (pc := 156) dX7_gathers_156 rfl ?_
      refine jJ_imul (pc := 158) dX7_gathers_158 ⟨by omega, by omega⟩ ?_
      refine jJ_iload (pc := 159) dX7_gathers_159 rfl ?_
      refine jJ_iadd (pc := 161) dX7_gathers_161 ⟨by omega, by omega⟩ ?_
      refine jJ_iconst (pc := 162) dX7_gathers_162 (by decide) ?_
      refine jJ_iast (pc := 163) dX7_gathers_163 hR.a30 ⟨by omega, by omega⟩ ?_
      rw [show (4 * (k : Int) + (c : Int)).toNat = 4 * k + c by omega]
      refine jJ_iinc (pc := 164) (ls' := [_, _, _, _, _, _, _, _]) dX7_gathers_164 rfl ⟨by omega, by omega⟩ rfl ?_
      refine jJ_goto (pc := 167) (tgt := 145) dX7_gathers_167 (by decide) ?_
      refine ih (c + 1) _ (by omega) (fun e he => by rw [← h1 e he]; funext j; exact jput_a _ he) (fun j hj => by rw [jput_k _ (by omega)]; exact h2 j hj) (fun e he => ?_)
      by_cases q : e = c
      · subst q; exact jput_s _ _ _ _
      · rw [jput_k _ (by omega)]; exact h3 e (by omega)
theorem gath_in {kd : Int} {len : Nat} (hR : RfL E P m a) (hT : RT I a t x) (hW : WX x) (h5 : I (a 5) t ≠ 0) (ht : t < 12) (hn : len = (xT x).length - 1) (hd : 3 ≤ d) {Z : Code → List Frame → Array Value → State → State → Prop} :
    ∀ (r i n : Nat) (F : (Int → Int → Int → Int) → Int) (J : jI) (z4 z5 z6 z7 : Option jV), i + r = len → n + r < 2400 → gF I m a J → GI J m a n F → (∀ J' z3 z4 z5 z6 z7, gF I m a J' → GI J' m a (n + r) (fun f => F f + sG f x kd i r) → jJ E yX7_gathers.cls cX7_gathers 8 none (jRm d) Z 0 0 206 [some (jp m), some (ji kd), some (ji (t : Int)), z3, z4, z5, z6, z7] [] J' P) → jJ E yX7_gathers.cls cX7_gathers 8 none (jRm d) Z 0 0 15 [some (jp m), some (ji kd), some (ji (t : Int)), some (ji (i : Int)), z4, z5, z6, z7] [] J P := by
  have hl := hW.2.2.2.1
  have x28 : a 28 ≠ a 30 := hR.d (by decide) (by decide) (by decide)
  have x29 : a 29 ≠ a 30 := hR.d (by decide) (by decide) (by decide)
  have x289 : a 28 ≠ a 29 := hR.d (by decide) (by decide) (by decide)
  have n28 := hR.n28
  have n29 := hR.n29
  have n30 := hR.n30
  intro r
  induction r with
  | zero =>
    intro i n F J z4 z5 z6 z7 hi hn2 hJ hG kk
    have hTJ := hJ.rt hR hT
    have e9 : J (a 9) ((t : Int).toNat) = ((xT x).length : Int) := by rw [Int.toNat_natCast]; exact hTJ.2.2.1
    have e5 : J (a 5) ((t : Int).toNat) ≠ 0 := by rw [Int.toNat_natCast, hJ.row hR (by decide) (by decide)]; exact h5
    refine jJ_aload_n (pc := 15) dX7_gathers_15 rfl ?_
    refine jJ_getr (pc := 16) dX7_gathers_16 fX7_17 rfl hR.1 hR.p5 ?_
    refine jJ_iload_n (pc := 19) dX7_gathers_19 rfl ?_
    refine jJ_zald (pc := 20) dX7_gathers_20 hR.a5 ⟨by omega, by omega⟩ ?_
    refine jJ_if_eq (pc := 21) (tgt := 206) dX7_gathers_21 (by decide) (fun c21 => ?_) (fun c21 => ?_)
    · exact absurd c21 e5
    · refine jJ_iload_n (pc := 24) dX7_gathers_24 rfl ?_
      refine jJ_aload_n (pc := 25) dX7_gathers_25 rfl ?_
      refine jJ_getr (pc := 26) dX7_gathers_26 fX7_30 rfl hR.1 hR.p9 ?_
      try simp only [e9]
      refine jJ_iload_n (pc := 29) dX7_gathers_29 rfl ?_
      refine jJ_iald (pc := 30) dX7_gathers_30 hR.a9 ⟨by omega, by omega⟩ ?_
      try simp only [e9]
      refine jJ_iconst (pc := 31) dX7_gathers_31 (by decide) ?_
      refine jJ_isub (pc := 32) dX7_gathers_32 ⟨by omega, by omega⟩ ?_
      refine jJ_icmp_ge (pc := 33) (tgt := 206) dX7_gathers_33 (by decide) (fun c33 => ?_) (fun c33 => ?_)
      · refine kk J _ _ _ _ _ hJ ?_
        obtain ⟨K, g1, g2, g3, g4⟩ := hG
        exact ⟨K, g1, by omega, g3, fun f => (g4 f).trans (by show F f = F f + sG f x kd i 0; rw [sG, Int.add_zero])⟩
      · exfalso
        omega
  | succ r ih =>
    intro i n F J z4 z5 z6 z7 hi hn2 hJ hG kk
    have hTJ := hJ.rt hR hT
    have e9 : J (a 9) ((t : Int).toNat) = ((xT x).length : Int) := by rw [Int.toNat_natCast]; exact hTJ.2.2.1
    have e5 : J (a 5) ((t : Int).toNat) ≠ 0 := by rw [Int.toNat_natCast, hJ.row hR (by decide) (by decide)]; exact h5
    have nx : ∀ (J' : jI) (z4 z5 z6 z7 : Option jV), gF I m a J' → GI J' m a (n + 1) (fun f => F f + (if xKd x i = kd then f (xTs x i) (jb (kd = 15)) (xCh x i) else 0)) → jJ E yX7_gathers.cls cX7_gathers 8 none (jRm d) Z 0 0 200 [some (jp m), some (ji kd), some (ji (t : Int)), some (ji (i : Int)), z4, z5, z6, z7] [] J' P := by
      intro J' z4 z5 z6 z7 hJ' hG'
      refine jJ_iinc (pc := 200) (ls' := [_, _, _, _, _, _, _, _]) dX7_gathers_200 rfl ⟨by omega, by omega⟩ rfl ?_
      refine jJ_goto (pc := 203) (tgt := 15) dX7_gathers_203 (by decide) ?_
      refine ih (i + 1) (n + 1) _ J' z4 z5 z6 z7 (by omega) (by omega) hJ' hG' (fun J2 z3 z4 z5 z6 z7 h2 hG2 => kk J2 z3 z4 z5 z6 z7 h2 ?_)
      obtain ⟨K, g1, g2, g3, g4⟩ := hG2
      refine ⟨K, g1, by omega, fun k hk => by have := g3 k hk; omega, fun f => ?_⟩
      refine (g4 f).trans ?_
      show F f + (if xKd x i = kd then f (xTs x i) (jb (kd = 15)) (xCh x i) else 0) + sG f x kd (i + 1) r = F f + sG f x kd i (r + 1)
      rw [sG, Int.add_assoc]
    refine jJ_aload_n (pc := 15) dX7_gathers_15 rfl ?_
    refine jJ_getr (pc := 16) dX7_gathers_16 fX7_17 rfl hR.1 hR.p5 ?_
    refine jJ_iload_n (pc := 19) dX7_gathers_19 rfl ?_
    refine jJ_zald (pc := 20) dX7_gathers_20 hR.a5 ⟨by omega, by omega⟩ ?_
    refine jJ_if_eq (pc := 21) (tgt := 206) dX7_gathers_21 (by decide) (fun c21 => ?_) (fun c21 => ?_)
    · exact absurd c21 e5
    · refine jJ_iload_n (pc := 24) dX7_gathers_24 rfl ?_
      refine jJ_aload_n (pc := 25) dX7_gathers_25 rfl ?_
      refine jJ_getr (pc := 26) dX7_gathers_26 fX7_30 rfl hR.1 hR.p9 ?_
      try simp only [e9]
      refine jJ_iload_n (pc := 29) dX7_gathers_29 rfl ?_
      refine jJ_iald (pc := 30) dX7_gathers_30 hR.a9 ⟨by omega, by omega⟩ ?_
      try simp only [e9]
      refine jJ_iconst (pc := 31) dX7_gathers_31 (by decide) ?_
      refine jJ_isub (pc := 32) dX7_gathers_32 ⟨by omega, by omega⟩ ?_
      refine jJ_icmp_ge (pc := 33) (tgt := 206) dX7_gathers_33 (by decide) (fun c33 => ?_) (fun c33 => ?_)
      · exfalso
        omega
      · have hin : i + 1 < (xT x).length := by omega
        refine jJ_aload_n (pc := 36) dX7_gathers_36 rfl ?_
        refine jJ_iload_n (pc := 37) dX7_gathers_37 rfl ?_
        refine jJ_iload_n (pc := 38) dX7_gathers_38 rfl ?_
        refine jJ_callVd (pc := 39) (as := [_, _]) dX7_gathers_39 mX7_226 (jRcv_of hR.1 rfl rfl) (Nat.le_of_ble_eq_true rfl) (jRm_ok (by omega) (by decide)) (x_kindOf (d := d - 1) hR hTJ hW ht hin (by omega)) ?_
        refine jJ_iload_n (pc := 42) dX7_gathers_42 rfl ?_
        refine jJ_icmp_eq (pc := 43) (tgt := 49) dX7_gathers_43 (by decide) (fun c43 => ?_) (fun c43 => ?_)
        · refine jJ_aload_n (pc := 49) dX7_gathers_49 rfl ?_
          refine jJ_iload_n (pc := 50) dX7_gathers_50 rfl ?_
          refine jJ_iload_n (pc := 51) dX7_gathers_51 rfl ?_
          refine jJ_callVd (pc := 52) (as := [_, _]) dX7_gathers_52 mX7_232 (jRcv_of hR.1 rfl rfl) (Nat.le_of_ble_eq_true rfl) (jRm_ok (by omega) (by decide)) (x_testsOf (d := d - 1) hR hTJ hW ht hin) ?_
          refine jJ_istore (pc := 55) (ls' := [_, _, _, _, _, _, _, _]) dX7_gathers_55 (Nat.le_of_ble_eq_true rfl) rfl ?_
          refine jJ_aload_n (pc := 57) dX7_gathers_57 rfl ?_
          refine jJ_iload_n (pc := 58) dX7_gathers_58 rfl ?_
          refine jJ_iload_n (pc := 59) dX7_gathers_59 rfl ?_
          refine jJ_callVd (pc := 60) (as := [_, _]) dX7_gathers_60 mX7_238 (jRcv_of hR.1 rfl rfl) (Nat.le_of_ble_eq_true rfl) (jRm_ok (by omega) (by decide)) (x_isPair (d := d - 1) hR hTJ hW ht hin) ?_
          obtain ⟨K, g1, g2, g3, g4⟩ := hG
          have hch := xCh_r x i
          have step : ∀ p : Int, p = jb (kd = 15) → jJ E yX7_gathers.cls cX7_gathers 8 none (jRm d) Z 0 0 71 [some (jp m), some (ji kd), some (ji (t : Int)), some (ji (i : Int)), some (ji (xTs x i)), z5, z6, z7] [ji p] J P := by
            intro p hp
            refine jJ_istore (pc := 71) (ls' := [_, _, _, _, _, _, _, _]) dX7_gathers_71 (Nat.le_of_ble_eq_true rfl) rfl ?_
            refine jJ_iconst (pc := 73) dX7_gathers_73 (by decide) ?_
            refine jJ_istore (pc := 74) (ls' := [_, _, _, _, _, _, _, _]) dX7_gathers_74 (Nat.le_of_ble_eq_true rfl) rfl ?_
            refine gath_seek hR g1 (by omega) (fun k hk hf => ?_) K 0 (by omega)
            have add : ∀ (J' : jI) (K' : Nat) (z7 : Option jV), gF I m a J' → J' m 31 = (K' : Int) → K' ≤ n + 1 → k < K' → (∀ j, j < 4 * K' → 0 ≤ J' (a 30) j ∧ J' (a 30) j ≤ n) → J' (a 28) k = xTs x i → J' (a 29) k = p → (∀ f, grp J' a f K' = F f) → jJ E yX7_gathers.cls cX7_gathers 8 none (jRm d) Z 0 0 180 [some (jp m), some (ji kd), some (ji (t : Int)), some (ji (i : Int)), some (ji (xTs x i)), some (ji p), some (ji (k : Int)), z7] [] J' P := by
              intro J' K' z7 hJ' h31 hK' hkK hb h28 h29 hgr
              obtain ⟨c', hc'⟩ : ∃ c' : Nat, xCh x i = (c' : Int) := ⟨(xCh x i).toNat, by omega⟩
              have hcn : c' < 4 := by omega
              have hbk := hb (4 * k + c') (by omega)
              refine jJ_aload_n (pc := 180) dX7_gathers_180 rfl ?_
              refine jJ_getr (pc := 181) dX7_gathers_181 fX7_69 rfl hR.1 hR.p30 ?_
              refine jJ_iconst (pc := 184) dX7_gathers_184 (by decide) ?_
              refine jJ_iload (pc := 185) dX7_gathers_185 rfl ?_
              refine jJ_imul (pc := 187) dX7_gathers_187 ⟨by omega, by omega⟩ ?_
              refine jJ_aload_n (pc := 188) dX7_gathers_188 rfl ?_
              refine jJ_iload_n (pc := 189) dX7_gathers_189 rfl ?_
              refine jJ_iload_n (pc := 190) dX7_gathers_190 rfl ?_
              refine jJ_callVd (pc := 191) (as := [_, _]) dX7_gathers_191 mX7_229 (jRcv_of hR.1 rfl rfl) (Nat.le_of_ble_eq_true rfl) (jRm_ok (by omega) (by decide)) (x_choiceOf (d := d - 1) hR (hJ'.rt hR hT) hW ht hin) ?_
              rw [hc']
              have et : (4 * (k : Int) + (c' : Int)).toNat = 4 * k + c' := by omega
              refine jJ_iadd (pc := 194) dX7_gathers_194 ⟨by omega, by omega⟩ ?_
              refine jJ_dup2 (pc := 195) dX7_gathers_195 rfl rfl ?_
              refine jJ_iald (pc := 196) dX7_gathers_196 hR.a30 ⟨by omega, by omega⟩ ?_
              try simp only [et]
              refine jJ_iconst (pc := 197) dX7_gathers_197 (by decide) ?_
              refine jJ_iadd (pc := 198) dX7_gathers_198 ⟨by omega, by omega⟩ ?_
              refine jJ_iast (pc := 199) dX7_gathers_199 hR.a30 ⟨by omega, by omega⟩ ?_
              try simp only [et]
              refine nx _ _ _ _ _ (hJ'.tr (gF.p hR (Or.inr (Or.inr rfl)))) ⟨K', by rw [jput_a _ (Ne.symm n30)]; exact h31, hK', fun j hj => ?_, fun f => ?_⟩
              · by_cases q : j = 4 * k + c'
                · rw [q, jput_s]; omega
                · rw [jput_k _ q]; have := hb j hj; omega
              · rw [grp_inc hR hcn K' hkK, hgr f, h28, h29]
                show F f + f (xTs x i) p (c' : Int) = F f + (if xKd x i = kd then f (xTs x i) (jb (kd = 15)) (xCh x i) else 0)
                rw [if_pos c43, hp, hc']
            refine jJ_iload (pc := 115) dX7_gathers_115 rfl ?_
            refine jJ_aload_n (pc := 117) dX7_gathers_117 rfl ?_
            refine jJ_geti (pc := 118) dX7_gathers_118 fX7_235 rfl hR.1 ?_
            try simp only [g1]
            refine jJ_icmp_ne (pc := 121) (tgt := 180) dX7_gathers_121 (by decide) (fun c121 => ?_) (fun c121 => ?_)
            · exact add J K _ hJ g1 (by omega) (by omega) (fun j hj => g3 j hj) (hf (by omega)).1 (hf (by omega)).2 g4
            · have ek : k = K := by omega
              subst ek
              refine jJ_aload_n (pc := 124) dX7_gathers_124 rfl ?_
              refine jJ_getr (pc := 125) dX7_gathers_125 fX7_63 rfl hR.1 hR.p28 ?_
              refine jJ_iload (pc := 128) dX7_gathers_128 rfl ?_
              refine jJ_iload (pc := 130) dX7_gathers_130 rfl ?_
              refine jJ_iast (pc := 132) dX7_gathers_132 hR.a28 ⟨by omega, by omega⟩ ?_
              refine jJ_aload_n (pc := 133) dX7_gathers_133 rfl ?_
              refine jJ_getr (pc := 134) dX7_gathers_134 fX7_66 rfl hR.1 hR.p29 ?_
              refine jJ_iload (pc := 137) dX7_gathers_137 rfl ?_
              refine jJ_iload (pc := 139) dX7_gathers_139 rfl ?_
              refine jJ_iast (pc := 141) dX7_gathers_141 hR.a29 ⟨by omega, by omega⟩ ?_
              refine jJ_iconst (pc := 142) dX7_gathers_142 (by decide) ?_
              refine jJ_istore (pc := 143) (ls' := [_, _, _, _, _, _, _, _]) dX7_gathers_143 (Nat.le_of_ble_eq_true rfl) rfl ?_
              rw [Int.toNat_natCast]
              refine gath_zero hR (by omega) (fun J' z h1 h2 h3 => ?_) 4 0 _ (by omega) (fun _ _ => rfl) (fun _ _ => rfl) (fun e he => absurd he (by omega))
              have q28 : J' (a 28) = jput J (a 28) k (xTs x i) (a 28) := by rw [h1 _ x28]; exact jput_row x289
              have q29 : J' (a 29) = jput (jput J (a 28) k (xTs x i)) (a 29) k p (a 29) := h1 _ x29
              have q31 : J' m 31 = (k : Int) := by rw [h1 _ (Ne.symm n30), jput_a _ (Ne.symm n29), jput_a _ (Ne.symm n28)]; exact g1
              have q30 : ∀ j, j < 4 * k → J' (a 30) j = J (a 30) j := fun j hj => by rw [h2 j hj, jput_a _ (Ne.symm x29), jput_a _ (Ne.symm x28)]
              have hJ' : gF I m a J' := by
                refine hJ.tr ⟨fun b b1 b2 b3 b4 => ?_, fun j hj => ?_⟩
                · rw [h1 b b4]; funext j; rw [jput_a _ b3, jput_a _ b2]
                · rw [h1 m (Ne.symm n30), jput_a _ (Ne.symm n29), jput_a _ (Ne.symm n28)]
              refine jJ_aload_n (pc := 170) dX7_gathers_170 rfl ?_
              refine jJ_dup (pc := 171) dX7_gathers_171 rfl ?_
              refine jJ_geti (pc := 172) dX7_gathers_172 fX7_235 rfl hR.1 ?_
              try simp only [q31]
              refine jJ_iconst (pc := 175) dX7_gathers_175 (by decide) ?_
              refine jJ_iadd (pc := 176) dX7_gathers_176 ⟨by omega, by omega⟩ ?_
              refine jJ_puti (pc := 177) dX7_gathers_177 fX7_235w rfl ⟨rfl, rfl⟩ hR.1 ?_
              try simp only [q31]
              have hg0 : ∀ f, grp J' a f k = F f := fun f => by
                rw [← g4 f]
                refine grp_cg k (fun j hj => ⟨?_, ?_⟩) q30
                · rw [q28, jput_k _ (by omega)]
                · rw [q29, jput_k _ (by omega), jput_a _ (Ne.symm x289)]
              refine add (jput J' m 31 ((k : Int) + 1)) (k + 1) _ (hJ'.tr gF.pm) (by rw [jput_s]; omega) (by omega) (by omega) (fun j hj => ?_) ?_ ?_ (fun f => ?_)
              · rw [jput_a _ n30]
                by_cases q : j < 4 * k
                · rw [q30 j q]; exact g3 j q
                · rw [show j = 4 * k + (j - 4 * k) by omega, h3 _ (by omega)]; omega
              · rw [jput_a _ n28, q28, jput_s]
              · rw [jput_a _ n29, q29, jput_s]
              · have e1 : grp (jput J' m 31 ((k : Int) + 1)) a f (k + 1) = grp J' a f (k + 1) := grp_cg (k + 1) (fun j _ => by rw [jput_a _ n28, jput_a _ n29]; exact ⟨rfl, rfl⟩) (fun j _ => jput_a _ n30)
                rw [e1, grp, hg0 f, show J' (a 30) (4 * k) = 0 from h3 0 (by decide), h3 1 (by decide), h3 2 (by decide), h3 3 (by decide)]
                simp
          refine jJ_if_eq (pc := 63) (tgt := 70) dX7_gathers_63 (by decide) (fun c63 => ?_) (fun c63 => ?_)
          · simp only [jb_z] at c63
            refine jJ_iconst (pc := 70) dX7_gathers_70 (by decide) ?_
            exact step 0 (by rw [← jb_f (by rw [← c43]; exact c63)])
          · simp only [jb_nz] at c63
            refine jJ_iconst (pc := 66) dX7_gathers_66 (by decide) ?_
            refine jJ_goto (pc := 67) (tgt := 71) dX7_gathers_67 (by decide) ?_
            exact step 1 (by rw [← jb_t (by rw [← c43]; exact c63)])
        · refine jJ_goto (pc := 46) (tgt := 200) dX7_gathers_46 (by decide) ?_
          refine nx J _ _ _ _ hJ ?_
          obtain ⟨K, g1, g2, g3, g4⟩ := hG
          exact ⟨K, g1, by omega, fun k hk => by have := g3 k hk; omega, fun f => (g4 f).trans (by show F f = F f + (if xKd x i = kd then f (xTs x i) (jb (kd = 15)) (xCh x i) else 0); rw [if_neg c43, Int.add_zero])⟩
theorem gath_out {kd : Int} {X : Nat → TX} (hR : RfL E P m a) (hX : RTs I a X) (hd : 3 ≤ d) :
    ∀ (r t n : Nat) (F : (Int → Int → Int → Int) → Int) (J : jI) (z3 z4 z5 z6 z7 : Option jV), t + r = 12 → n ≤ 199 * t → gF I m a J → GI J m a n F → jJ E yX7_gathers.cls cX7_gathers 8 none (jRm d) (jZ E (fun v I' P' => P' = P ∧ v = none ∧ gF I m a I' ∧ GI I' m a 2388 (fun f => F f + sT f (I (a 5)) X kd t r))) 0 0 7 [some (jp m), some (ji kd), some (ji (t : Int)), z3, z4, z5, z6, z7] [] J P := by
  intro r
  induction r with
  | zero =>
    intro t n F J z3 z4 z5 z6 z7 ht hn hJ hG
    refine jJ_iload_n (pc := 7) dX7_gathers_7 rfl ?_
    refine jJ_bipush (pc := 8) dX7_gathers_8 (by decide) ?_
    refine jJ_icmp_ge (pc := 10) (tgt := 212) dX7_gathers_10 (by decide) (fun c10 => ?_) (fun c10 => ?_)
    · refine jJ_vret (pc := 212) dX7_gathers_212 rfl ?_
      obtain ⟨K, g1, g2, g3, g4⟩ := hG
      exact ⟨rfl, rfl, hJ, K, g1, by omega, fun k hk => by have := g3 k hk; omega, fun f => (g4 f).trans (by show F f = F f + sT f (I (a 5)) X kd t 0; rw [sT, Int.add_zero])⟩
    · exfalso
      omega
  | succ r ih =>
    intro t n F J z3 z4 z5 z6 z7 ht hn hJ hG
    have e5 : J (a 5) = I (a 5) := hJ.row hR (by decide) (by decide)
    refine jJ_iload_n (pc := 7) dX7_gathers_7 rfl ?_
    refine jJ_bipush (pc := 8) dX7_gathers_8 (by decide) ?_
    refine jJ_icmp_ge (pc := 10) (tgt := 212) dX7_gathers_10 (by decide) (fun c10 => ?_) (fun c10 => ?_)
    · exfalso
      omega
    · by_cases h5 : I (a 5) t = 0
      · refine jJ_iconst (pc := 13) dX7_gathers_13 (by decide) ?_
        refine jJ_istore_n (pc := 14) (ls' := [_, _, _, _, _, _, _, _]) dX7_gathers_14 (Nat.le_of_ble_eq_true rfl) rfl ?_
        refine jJ_aload_n (pc := 15) dX7_gathers_15 rfl ?_
        refine jJ_getr (pc := 16) dX7_gathers_16 fX7_17 rfl hR.1 hR.p5 ?_
        try simp only [Int.toNat_natCast, e5, h5]
        refine jJ_iload_n (pc := 19) dX7_gathers_19 rfl ?_
        refine jJ_zald (pc := 20) dX7_gathers_20 hR.a5 ⟨by omega, by omega⟩ ?_
        try simp only [Int.toNat_natCast, e5, h5]
        refine jJ_if_eq (pc := 21) (tgt := 206) dX7_gathers_21 (by decide) (fun c21 => ?_) (fun c21 => ?_)
        · refine jJ_iinc (pc := 206) (ls' := [_, _, _, _, _, _, _, _]) dX7_gathers_206 rfl ⟨by omega, by omega⟩ rfl ?_
          refine jJ_goto (pc := 209) (tgt := 7) dX7_gathers_209 (by decide) ?_
          refine jJ_mono (ih (t + 1) n F J _ _ _ _ _ (by omega) (by omega) hJ hG) ?_
          rintro v I' P' ⟨q1, q2, q3, K, g1, g2, g3, g4⟩
          exact ⟨q1, q2, q3, K, g1, g2, g3, fun f => (g4 f).trans (by show F f + sT f (I (a 5)) X kd (t + 1) r = F f + sT f (I (a 5)) X kd t (r + 1); rw [sT, if_neg (by simp [h5]), Int.zero_add])⟩
        · exact absurd rfl c21
      · obtain ⟨hT, hW⟩ := hX t (by omega) h5
        have hl := hW.2.2.2.1
        refine jJ_iconst (pc := 13) dX7_gathers_13 (by decide) ?_
        refine jJ_istore_n (pc := 14) (ls' := [_, _, _, _, _, _, _, _]) dX7_gathers_14 (Nat.le_of_ble_eq_true rfl) rfl ?_
        refine gath_in hR hT hW h5 (by omega) rfl hd ((xT (X t)).length - 1) 0 n F J z4 z5 z6 z7 (by omega) (by omega) hJ hG (fun J' z3 z4 z5 z6 z7 hJ' hG' => ?_)
        refine jJ_iinc (pc := 206) (ls' := [_, _, _, _, _, _, _, _]) dX7_gathers_206 rfl ⟨by omega, by omega⟩ rfl ?_
        refine jJ_goto (pc := 209) (tgt := 7) dX7_gathers_209 (by decide) ?_
        refine jJ_mono (ih (t + 1) _ _ J' _ _ _ _ _ (by omega) (by omega) hJ' hG') ?_
        rintro v I' P' ⟨q1, q2, q3, K, g1, g2, g3, g4⟩
        exact ⟨q1, q2, q3, K, g1, g2, g3, fun f => (g4 f).trans (by show F f + sG f (X t) kd 0 ((xT (X t)).length - 1) + sT f (I (a 5)) X kd (t + 1) r = F f + sT f (I (a 5)) X kd t (r + 1); rw [sT, if_pos h5, Int.add_assoc])⟩
theorem x_gathers {kd : Int} {X : Nat → TX} (hR : RfL E P m a) (hX : RTs I a X) (hd : 3 ≤ d) :
    jC E yX7_gathers cX7_gathers 8 none d [jp m, ji kd] I P (fun v I' P' => P' = P ∧ v = none ∧ gF I m a I' ∧ GI I' m a 2388 (fun f => sT f (I (a 5)) X kd 0 12)) := by
  have e5 : jput I m 31 0 (a 5) = I (a 5) := jput_row hR.n5
  refine jC_intro (by decide +kernel) (by simp [jc, va_rf, Value.category]) (Nat.le_of_ble_eq_true rfl) ?_
  refine jJ_aload_n (pc := 0) dX7_gathers_0 rfl ?_
  refine jJ_iconst (pc := 1) dX7_gathers_1 (by decide) ?_
  refine jJ_puti (pc := 2) dX7_gathers_2 fX7_235w rfl ⟨rfl, rfl⟩ hR.1 ?_
  refine jJ_iconst (pc := 5) dX7_gathers_5 (by decide) ?_
  refine jJ_istore_n (pc := 6) (ls' := [_, _, _, _, _, _, _, _]) dX7_gathers_6 (Nat.le_of_ble_eq_true rfl) rfl ?_
  refine jJ_mono (gath_out (I := I) hR hX hd 12 0 0 (fun _ => 0) (jput I m 31 0) none none none none none (by omega) (by omega) gF.pm ⟨0, by rw [jput_s]; rfl, by omega, fun k hk => absurd hk (by omega), fun f => rfl⟩) ?_
  rintro v I' P' ⟨q1, q2, q3, K, g1, g2, g3, g4⟩
  exact ⟨q1, q2, q3, K, g1, g2, g3, fun f => (g4 f).trans (by show 0 + sT f (I (a 5)) X kd 0 12 = sT f (I (a 5)) X kd 0 12; rw [Int.zero_add])⟩
end JRF
