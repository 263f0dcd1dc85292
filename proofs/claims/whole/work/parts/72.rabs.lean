section JAbs
theorem jAnd_255 (x : Int) : jAnd x 255 = x % 256 := by
  unfold jAnd
  have e : (Int32.ofInt x &&& Int32.ofInt 255).toInt = ((Int32.ofInt x &&& Int32.ofInt 255).toBitVec).toInt := rfl
  have e2 : (BitVec.ofInt 32 x &&& BitVec.ofInt 32 255).toNat = (x % 256).toNat := by
    rw [BitVec.toNat_and, BitVec.toNat_ofInt, show (BitVec.ofInt 32 255).toNat = 2 ^ 8 - 1 from rfl, Nat.and_two_pow_sub_one_eq_mod]
    omega
  rw [e, Int32.toBitVec_and, Int32.toBitVec_ofInt, Int32.toBitVec_ofInt, BitVec.toInt_eq_toNat_of_lt (by rw [e2]; omega), e2]
  omega
theorem bR_and (x : Int) : bR (jB x) (jAnd x 255) := by
  have e : jB x = jB (x % 256) := by
    rw [jB_eq, jB_eq, Int.bmod_def, Int.bmod_def]
    have : x % 256 % 256 = x % 256 := by omega
    simp only [show ((256 : Nat) : Int) = 256 from rfl, this]
  rw [jAnd_255, e]
  exact bR_jB (by omega)
theorem bR_back {x y : Int} (h : bR x y) : jAnd x 255 = y := by
  rw [jAnd_255]
  unfold bR at h
  omega
theorem bR_u {x y z : Int} (h1 : bR x y) (h2 : bR x z) : y = z := by unfold bR at h1 h2; omega
/-- a TEXT: how many bytes, which, the HAND, the TOKENS, how many STATEMENTS -/
abbrev TX : Type := Nat × (Nat → Int) × Int × List T5 × Int
def xN (x : TX) : Nat := x.1
def xF (x : TX) : Nat → Int := x.2.1
def xH (x : TX) : Int := x.2.2.1
def xT (x : TX) : List T5 := x.2.2.2.1
def xS (x : TX) : Int := x.2.2.2.2
def WX (x : TX) : Prop := xN x ≤ 800 ∧ (∀ k, k < xN x → 0 ≤ xF x k ∧ xF x k ≤ 255) ∧ (0 ≤ xH x ∧ xH x ≤ 3) ∧ (xT x).length ≤ 200 ∧ WT (xF x) (xN x) (xT x)
/-- the reference holds the TEXT x at t -/
def RT (I : jI) (a : Nat → Nat) (t : Nat) (x : TX) : Prop := I (a 7) t = (xN x : Int) ∧ I (a 8) t = xH x ∧ I (a 9) t = ((xT x).length : Int) ∧ I (a 10) t = xS x ∧ (∀ k, k < xN x → I (a 6) (800 * t + k) = xF x k) ∧ ∀ k, k < (xT x).length → I (a 11) (201 * t + k) = (ti (xT x) k).1 ∧ I (a 12) (201 * t + k) = (ti (xT x) k).2.1 - (ti (xT x) k).1 ∧ I (a 13) (201 * t + k) = srt (ti (xT x) k).2.2.1 ∧ I (a 14) (201 * t + k) = (ti (xT x) k).2.2.2.1 ∧ I (a 15) (201 * t + k) = (ti (xT x) k).2.2.2.2
def xSt (x : TX) (i : Nat) : Int := (ti (xT x) i).1
def xEn (x : TX) (i : Nat) : Int := (ti (xT x) i).2.1
def xSg (x : TX) (i : Nat) : Int := (ti (xT x) i).2.2.1
def xDp (x : TX) (i : Nat) : Int := (ti (xT x) i).2.2.2.1
def xOw (x : TX) (i : Nat) : Int := (ti (xT x) i).2.2.2.2
/-- KIND, CHOICE and TESTS of the i-th GAP -/
def xKd (x : TX) (i : Nat) : Int := kindB (xSg x i) (xSg x (i + 1))
def xCh (x : TX) (i : Nat) : Int := chB (fun p => xF x p.toNat) (xEn x i) (xSt x (i + 1)) (xDp x (i + 1))
def xTs (x : TX) (i : Nat) : Int := tstV (xOw x i) (xH x) (xDp x (i + 1))
variable {x : TX} {i : Nat}
theorem tkG_val {f : Nat → Int} {n j : Nat} : (1 ≤ tkG f n j ∧ tkG f n j ≤ 8) ∨ isSgB (tkG f n j) = true := by
  unfold tkG
  split
  · left; decide
  · split
    · left
      have := wSort_cases f 800 (tkS f n j : Int) (tkE f n j : Int)
      omega
    · split
      · left; decide
      · split
        · right; assumption
        · left; decide
theorem tkG_sgn {f : Nat → Int} {n j : Nat} (h : isSgB (tkG f n j) = true) : f (tkS f n j) = tkG f n j ∧ tkE f n j = tkS f n j + 1 := by
  have hs := h
  unfold isSgB at hs
  rw [decide_eq_true_iff] at hs
  have h8 : ¬ n ≤ tkS f n j := fun z => by have := tkG_8.mpr z; omega
  generalize e : tkG f n j = v at hs ⊢
  rw [tkG, if_neg h8] at e
  unfold tkE
  by_cases q1 : isLtB (f (tkS f n j)) = true
  · rw [if_pos q1] at e
    have := wSort_cases f 800 (tkS f n j : Int) (tkE f n j : Int)
    omega
  · rw [if_neg q1] at e
    by_cases q2 : isDgB (f (tkS f n j)) = true
    · rw [if_pos q2] at e
      omega
    · rw [if_neg q2] at e
      by_cases q3 : isSgB (f (tkS f n j)) = true
      · rw [if_pos q3] at e
        rw [if_neg h8, if_neg q1, if_neg q2]
        exact ⟨e, rfl⟩
      · rw [if_neg q3] at e
        omega
/-- the TOKENS of a TEXT: what holds of each -/
theorem WX.tk (h : WX x) (hi : i < (xT x).length) : (0 ≤ xSt x i ∧ xSt x i < xEn x i ∧ xEn x i ≤ (xN x : Int) ∧ (xN x : Int) ≤ 800) ∧ ((1 ≤ xSg x i ∧ xSg x i ≤ 6) ∨ (isSgB (xSg x i) = true ∧ xF x (xSt x i).toNat = xSg x i ∧ xEn x i = xSt x i + 1)) ∧ (xSg x i = 1 → xEn x i ≤ xSt x i + 16) ∧ (0 ≤ xDp x i ∧ xDp x i ≤ 6) ∧ (0 ≤ xOw x i ∧ xOw x i ≤ 3) := by
  obtain ⟨h1, h2, h3, h4, h5, h6⟩ := h
  obtain ⟨⟨j, e1, e2, e3, e8, e7, e16⟩, e4, e5⟩ := h5 i hi
  have hin := tk_in e8
  unfold xSt xEn xSg
  refine ⟨by omega, ?_, fun z => by have := e16 (by omega); omega, e4, e5⟩
  rw [e3, e1, e2]
  rcases tkG_val (f := xF x) (n := xN x) (j := j) with q | q
  · left; omega
  · right
    have := tkG_sgn q
    exact ⟨q, by rw [Int.toNat_natCast]; exact this.1, by omega⟩
theorem WX.or (h : WX x) (hi : i + 1 < (xT x).length) : xEn x i ≤ xSt x (i + 1) ∧ (xSg x i = 41 → ¬ (1 ≤ xSg x (i + 1) ∧ xSg x (i + 1) ≤ 6)) := h.2.2.2.2.2 i hi
theorem srt_2 {g : Int} (h : (1 ≤ g ∧ g ≤ 6) ∨ isSgB g = true) : srt g = 2 ↔ isSgB g = true := by
  unfold isSgB at *
  rw [decide_eq_true_iff] at *
  unfold srt
  (repeat' split) <;> omega
theorem kindB_cg {f f' s s' : Int} (h1 : ∀ c : Int, 40 ≤ c → (f = c ↔ f' = c)) (h2 : ∀ c : Int, 40 ≤ c → (s = c ↔ s' = c)) : kindB f s = kindB f' s' := by
  unfold kindB kindS
  simp only [h1 59 (by decide), h1 123 (by decide), h1 125 (by decide), h1 44 (by decide), h1 40 (by decide), h1 61 (by decide), h1 43 (by decide), h1 45 (by decide), h1 60 (by decide), h2 59 (by decide), h2 123 (by decide), h2 125 (by decide), h2 44 (by decide), h2 40 (by decide), h2 41 (by decide), h2 61 (by decide), h2 43 (by decide), h2 45 (by decide), h2 60 (by decide)]
theorem allP_cg {f g : Int → Int} {v : Int} : ∀ (k : Nat) (p : Int), (∀ q, p ≤ q → q < p + k → (f q = v ↔ g q = v)) → allP f v p k = allP g v p k
  | 0, p, _ => rfl
  | k + 1, p, h => by
    have h0 := h p (by omega) (by omega)
    have h1 := allP_cg (f := f) (g := g) (v := v) k (p + 1) (fun q a b => h q (by omega) (by omega))
    by_cases q : f p = v
    · rw [allP_t q, allP_t (h0.mp q), h1]
    · rw [allP_f q, allP_f (fun z => q (h0.mpr z))]
theorem chB_cg {f g : Int → Int} {e s dp : Int} (hes : e ≤ s) (h : ∀ p, e ≤ p → p < s → (f p = 32 ↔ g p = 32) ∧ (f p = 10 ↔ g p = 10)) : chB f e s dp = chB g e s dp := by
  unfold chB
  by_cases q0 : s - e = 0
  · rw [if_pos q0, if_pos q0]
  · rw [if_neg q0, if_neg q0]
    have he := h e (by omega) (by omega)
    rw [allP_cg (f := f) (g := g) (v := 32) _ _ (fun q a b => (h q (by omega) (by omega)).1)]
    simp only [ne_eq, he.1, he.2]
theorem rTv_eq {dp ow hand : Int} (h1 : 0 ≤ ow ∧ ow ≤ 3) (h2 : 0 ≤ hand ∧ hand ≤ 3) : rTv dp ow hand = tstV ow hand dp := by
  have q1 : ow = 0 ∨ ow = 1 ∨ ow = 2 ∨ ow = 3 := by omega
  have q2 : hand = 0 ∨ hand = 1 ∨ hand = 2 ∨ hand = 3 := by omega
  unfold rTv tstV
  by_cases d0 : dp = 0
  · rw [if_pos d0, if_pos d0]
    rcases q1 with rfl | rfl | rfl | rfl <;> rcases q2 with rfl | rfl | rfl | rfl <;> decide
  · rw [if_neg d0, if_neg d0]
    by_cases d2 : 2 ≤ dp
    · rw [if_pos d2, if_pos d2]
      rcases q1 with rfl | rfl | rfl | rfl <;> rcases q2 with rfl | rfl | rfl | rfl <;> decide
    · rw [if_neg d2, if_neg d2]
      rcases q1 with rfl | rfl | rfl | rfl <;> rcases q2 with rfl | rfl | rfl | rfl <;> decide
theorem xKd_15 (h : WX x) (hi : i + 1 < (xT x).length) : xKd x i = 15 ↔ (srt (xSg x i) ≠ 2 ∧ srt (xSg x (i + 1)) ≠ 2) := by
  have t1 := (h.tk (i := i) (by omega)).2.1
  have t2 := (h.tk (i := i + 1) (by omega)).2.1
  have ho := (h.or hi).2
  have v1 : (1 ≤ xSg x i ∧ xSg x i ≤ 6) ∨ isSgB (xSg x i) = true := t1.imp id (fun z => z.1)
  have v2 : (1 ≤ xSg x (i + 1) ∧ xSg x (i + 1) ≤ 6) ∨ isSgB (xSg x (i + 1)) = true := t2.imp id (fun z => z.1)
  rw [Ne, Ne, srt_2 v1, srt_2 v2]
  unfold xKd
  simp only [isSgB, decide_eq_true_iff] at v1 v2 ⊢
  generalize xSg x i = f at *
  generalize xSg x (i + 1) = s at *
  unfold kindB kindS
  constructor
  · intro z
    (repeat' split at z) <;> omega
  · rintro ⟨z1, z2⟩
    have e1 : 1 ≤ f ∧ f ≤ 6 := by omega
    have e2 : 1 ≤ s ∧ s ≤ 6 := by omega
    rw [if_neg (by omega), if_neg (by omega), if_neg (by omega), if_neg (by omega), if_neg (by omega), if_neg (by omega), if_neg (by omega), if_neg (by omega), if_neg (by omega), if_neg (by omega), if_neg (by omega), if_neg (by omega), if_neg (by omega), if_neg (by omega), if_neg (by omega)]
theorem xKd_r (x : TX) (i : Nat) : 0 ≤ xKd x i ∧ xKd x i ≤ 15 := kindB_r _ _
theorem chB_r (f : Int → Int) (e s dp : Int) : 0 ≤ chB f e s dp ∧ chB f e s dp ≤ 3 := by unfold chB; (repeat' split) <;> decide
theorem xCh_r (x : TX) (i : Nat) : 0 ≤ xCh x i ∧ xCh x i ≤ 3 := chB_r _ _ _ _
end JAbs
section JAbs2
variable {I : jI} {a : Nat → Nat} {t : Nat} {x : TX} {i : Nat}
theorem RT.g11 (h : RT I a t x) (hi : i < (xT x).length) : rg (I (a 11)) (t : Int) (i : Int) = xSt x i := by
  unfold rg
  rw [show (201 * (t : Int) + (i : Int)).toNat = 201 * t + i by omega]
  exact (h.2.2.2.2.2 i hi).1
theorem RT.g12 (h : RT I a t x) (hi : i < (xT x).length) : rg (I (a 12)) (t : Int) (i : Int) = xEn x i - xSt x i := by
  unfold rg
  rw [show (201 * (t : Int) + (i : Int)).toNat = 201 * t + i by omega]
  exact (h.2.2.2.2.2 i hi).2.1
theorem RT.g13 (h : RT I a t x) (hi : i < (xT x).length) : rg (I (a 13)) (t : Int) (i : Int) = srt (xSg x i) := by
  unfold rg
  rw [show (201 * (t : Int) + (i : Int)).toNat = 201 * t + i by omega]
  exact (h.2.2.2.2.2 i hi).2.2.1
theorem RT.g14 (h : RT I a t x) (hi : i < (xT x).length) : rg (I (a 14)) (t : Int) (i : Int) = xDp x i := by
  unfold rg
  rw [show (201 * (t : Int) + (i : Int)).toNat = 201 * t + i by omega]
  exact (h.2.2.2.2.2 i hi).2.2.2.1
theorem RT.g15 (h : RT I a t x) (hi : i < (xT x).length) : rg (I (a 15)) (t : Int) (i : Int) = xOw x i := by
  unfold rg
  rw [show (201 * (t : Int) + (i : Int)).toNat = 201 * t + i by omega]
  exact (h.2.2.2.2.2 i hi).2.2.2.2
theorem RT.by (h : RT I a t x) {p : Int} (hp : 0 ≤ p ∧ p < (xN x : Int)) : rby (I (a 6)) (t : Int) p = xF x p.toNat := by
  unfold rby
  rw [show (800 * (t : Int) + p).toNat = 800 * t + p.toNat by omega]
  exact h.2.2.2.2.1 p.toNat (by omega)
theorem RT.sg (h : RT I a t x) (hW : WX x) (hi : i < (xT x).length) : ∀ c : Int, 40 ≤ c → (sgC (I (a 13)) (I (a 11)) (I (a 6)) (t : Int) (i : Int) = c ↔ xSg x i = c) := by
  intro c hc
  have tk := hW.tk hi
  unfold sgC
  rw [h.g13 hi, h.g11 hi, h.by (by omega)]
  have v1 : (1 ≤ xSg x i ∧ xSg x i ≤ 6) ∨ isSgB (xSg x i) = true := tk.2.1.imp id (fun z => z.1)
  have hs := srt_2 v1
  by_cases q : srt (xSg x i) = 2
  · rw [if_pos q]
    rcases tk.2.1 with z | z
    · have := hs.mp q
      unfold isSgB at this
      rw [decide_eq_true_iff] at this
      omega
    · rw [z.2.1]
  · rw [if_neg q]
    rcases tk.2.1 with z | z
    · omega
    · exact absurd (hs.mpr z.1) q
theorem RT.kd (h : RT I a t x) (hW : WX x) (hi : i + 1 < (xT x).length) : rKd (I (a 13)) (I (a 11)) (I (a 6)) (t : Int) (i : Int) = xKd x i := by
  unfold rKd xKd
  refine kindB_cg (h.sg hW (by omega)) ?_
  have := h.sg hW hi
  rw [show ((i + 1 : Nat) : Int) = (i : Int) + 1 by omega] at this
  exact this
theorem RT.ch (h : RT I a t x) (hW : WX x) (hi : i + 1 < (xT x).length) : rCh (I (a 11)) (I (a 12)) (I (a 14)) (I (a 6)) (t : Int) (i : Int) = xCh x i := by
  have t1 := (hW.tk (i := i) (by omega)).1
  have t2 := (hW.tk (i := i + 1) (by omega)).1
  have ho := (hW.or hi).1
  have e11 := h.g11 hi
  have e14 := h.g14 hi
  rw [show ((i + 1 : Nat) : Int) = (i : Int) + 1 by omega] at e11 e14
  unfold rCh xCh
  rw [h.g11 (by omega), h.g12 (by omega), e11, e14, show xSt x i + (xEn x i - xSt x i) = xEn x i by omega]
  refine chB_cg ho (fun p h1 h2 => ?_)
  rw [h.by (by omega)]
  exact ⟨Iff.rfl, Iff.rfl⟩
theorem RT.ts (h : RT I a t x) (hW : WX x) (hi : i + 1 < (xT x).length) : rTs (I (a 14)) (I (a 15)) (I (a 8)) (t : Int) (i : Int) = xTs x i := by
  have e14 := h.g14 hi
  rw [show ((i + 1 : Nat) : Int) = (i : Int) + 1 by omega] at e14
  unfold rTs xTs
  rw [e14, h.g15 (by omega), Int.toNat_natCast, h.2.1, rTv_eq (hW.tk (i := i) (by omega)).2.2.2.2 hW.2.2.1]
theorem RT.pr (h : RT I a t x) (hW : WX x) (hi : i + 1 < (xT x).length) : (rg (I (a 13)) (t : Int) (i : Int) ≠ 2 ∧ rg (I (a 13)) (t : Int) ((i : Int) + 1) ≠ 2) ↔ xKd x i = 15 := by
  have e13 := h.g13 hi
  rw [show ((i + 1 : Nat) : Int) = (i : Int) + 1 by omega] at e13
  rw [xKd_15 hW hi, h.g13 (by omega), e13]
/-- what THE STYLE S tells at a GAP -/
def xTol (S : Nat → Nat → Int) (x : TX) (i : Nat) : Int := kepA (xKd x i) (habRow (S (xKd x i).toNat 0) (S (xKd x i).toNat 1) (S (xKd x i).toNat 2) (S (xKd x i).toNat 3) (S (xKd x i).toNat 4) (S (xKd x i).toNat 5) (xTs x i))
/-- the reference's rows of the habits -/
def RS (I : jI) (a : Nat → Nat) (S : Nat → Nat → Int) : Prop := ∀ k j, k < 16 → j < 8 → I (a 18) (8 * k + j) = S k j
theorem RT.tol {S : Nat → Nat → Int} (h : RT I a t x) (hW : WX x) (hS : RS I a S) (hi : i + 1 < (xT x).length) : rTol I a (t : Int) (i : Int) = xTol S x i := by
  have hk := xKd_r x i
  unfold rTol xTol
  rw [h.kd hW hi, h.ts hW hi]
  have e : ∀ j : Nat, j < 8 → I (a 18) (8 * xKd x i + (j : Int)).toNat = S (xKd x i).toNat j := fun j hj => by
    rw [show (8 * xKd x i + (j : Int)).toNat = 8 * (xKd x i).toNat + j by omega]
    exact hS _ _ (by omega) hj
  have e0 := e 0 (by decide)
  have e1 := e 1 (by decide)
  have e2 := e 2 (by decide)
  have e3 := e 3 (by decide)
  have e4 := e 4 (by decide)
  have e5 := e 5 (by decide)
  rw [show 8 * xKd x i + ((0 : Nat) : Int) = 8 * xKd x i by omega] at e0
  rw [e0, show (8 * xKd x i + 1).toNat = (8 * xKd x i + ((1 : Nat) : Int)).toNat from rfl, e1, show (8 * xKd x i + 2).toNat = (8 * xKd x i + ((2 : Nat) : Int)).toNat from rfl, e2, show (8 * xKd x i + 3).toNat = (8 * xKd x i + ((3 : Nat) : Int)).toNat from rfl, e3, show (8 * xKd x i + 4).toNat = (8 * xKd x i + ((4 : Nat) : Int)).toNat from rfl, e4, show (8 * xKd x i + 5).toNat = (8 * xKd x i + ((5 : Nat) : Int)).toNat from rfl, e5]
  unfold rTl kepA
  have hp := h.pr hW hi
  by_cases q : xKd x i = 15
  · rw [← jb_t (hp.mpr q)]
    simp [q, and_comm]
  · rw [← jb_f (fun z => q (hp.mp z))]
    simp [q]
end JAbs2
