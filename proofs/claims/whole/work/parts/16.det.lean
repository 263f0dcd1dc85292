section JDet
theorem jRm_ok {d d' n2 : Nat} (h : d' + 1 ≤ d) (hn : n2 ≤ 41) : d' + 1 ≤ (jRm d).frames ∧ 8 + (n2 + 11) + 60 * d' ≤ (jRm d).locals ∧ 0 ≤ (jRm d).cells ∧ 0 ≤ (jRm d).slots := by
  refine ⟨h, ?_, Nat.le_refl _, Nat.le_refl _⟩
  show 8 + (n2 + 11) + 60 * d' ≤ 60 * d
  omega
/-- just this answer, just this memory -/
def jD (v : Option jV) (I1 : jI) (P1 : jP) : Option jV → jI → jP → Prop := fun q I' P' => q = v ∧ I' = I1 ∧ P' = P1
def jb (p : Prop) [Decidable p] : Int := if p then 1 else 0
theorem jb_z {p : Prop} [Decidable p] : jb p = 0 ↔ ¬ p := by unfold jb; split <;> simp_all
theorem jb_nz {p : Prop} [Decidable p] : jb p ≠ 0 ↔ p := by unfold jb; split <;> simp_all
theorem jb_01 {p : Prop} [Decidable p] : jb p = 0 ∨ jb p = 1 := by unfold jb; split <;> simp
theorem jb_t {p : Prop} [Decidable p] (h : p) : (1 : Int) = jb p := by simp [jb, h]
theorem jb_f {p : Prop} [Decidable p] (h : ¬ p) : (0 : Int) = jb p := by simp [jb, h]
theorem jC_post {E : jE} {y : MethodName} {cc : ByteArray} {n d : Nat} {rt : Option FieldType} {as : List jV} {I : jI} {P : jP} {v v' : Option jV} {I1 I1' : jI} {P1 : jP} (h : jC E y cc n rt d as I P (jD v I1 P1)) (hv : v = v') (hI : I1 = I1') : jC E y cc n rt d as I P (jD v' I1' P1) := by
  subst hv; subst hI; exact h
variable {E : jE} {own : String} {cc : ByteArray} {nL : Nat} {rt : Option FieldType} {R : Room} {Z : Code → List Frame → Array Value → State → State → Prop} {cs ss pc : Nat} {ls : List (Option jV)} {st : List jV} {I : jI} {P : jP}
theorem jJ_callVd {idx n2 d b : Nat} {C : String} {y : MethodName} {c2 : ByteArray} {rt2 : Option FieldType} {as : List jV} {v : Option jV} {I1 : jI} {P1 : jP} (hd : decode cc pc = .ok (.invokevirtual idx, 3)) (hM : jMv own idx C y c2 n2 rt2 as.length) (hrc : jRcv E C b) (hst : (st.map (fun v => (jc v).category)).sum ≤ 8) (hR : d + 1 ≤ R.frames ∧ 8 + (n2 + 11) + 60 * d ≤ R.locals ∧ cs ≤ R.cells ∧ ss ≤ R.slots)
    (hC : jC E y c2 n2 rt2 d (jp b :: as) I P (jD v I1 P1)) (kk : jJ E own cc nL rt R Z cs ss (pc + 3) ls (v.toList ++ st) I1 P1) : jJ E own cc nL rt R Z cs ss pc ls (as.reverse ++ jp b :: st) I P :=
  jJ_callV hd hM hrc hst hR hC (fun r I' P' h => by obtain ⟨rfl, rfl, rfl⟩ := h; exact kk)
theorem jJ_callSd {idx n2 d : Nat} {y : MethodName} {c2 : ByteArray} {rt2 : Option FieldType} {as : List jV} {v : Option jV} {I1 : jI} {P1 : jP} (hd : decode cc pc = .ok (.invokestatic idx, 3)) (hM : jMs own idx y c2 n2 rt2 as.length) (hst : (st.map (fun v => (jc v).category)).sum ≤ 8) (hR : d + 1 ≤ R.frames ∧ 8 + (n2 + 11) + 60 * d ≤ R.locals ∧ cs ≤ R.cells ∧ ss ≤ R.slots)
    (hC : jC E y c2 n2 rt2 d as I P (jD v I1 P1)) (kk : jJ E own cc nL rt R Z cs ss (pc + 3) ls (v.toList ++ st) I1 P1) : jJ E own cc nL rt R Z cs ss pc ls (as.reverse ++ st) I P :=
  jJ_callS hd hM hst hR hC (fun r I' P' h => by obtain ⟨rfl, rfl, rfl⟩ := h; exact kk)
theorem jJ_of_eq {v v' : Option jV} {I1 : jI} {P1 : jP} (h : jJ E own cc nL rt R (jZ E (jD v I1 P1)) cs ss pc ls st I P) (hv : v = v') : jJ E own cc nL rt R (jZ E (jD v' I1 P1)) cs ss pc ls st I P := hv ▸ h
theorem jmax_nm : yJ9_max_7cf53 = Lib.Math.max.name ∧ cJ9_max_7cf53 = Lib.Math.max.code := ⟨by decide +kernel, by decide +kernel⟩
theorem jmin_nm : yJ9_min_7cf53 = Lib.Math.min.name ∧ cJ9_min_7cf53 = Lib.Math.min.code := ⟨by decide +kernel, by decide +kernel⟩
theorem jJ_max {idx : Nat} {x y : Int} (hd : decode cc pc = .ok (.invokestatic idx, 3)) (hM : jMs own idx yJ9_max_7cf53 cJ9_max_7cf53 2 (some .int) 2) (hN : Cond.methodLink own idx yJ9_max_7cf53 ∈ jT) (hst : (st.map (fun v => (jc v).category)).sum ≤ 8) (hR : 1 ≤ R.frames ∧ 60 ≤ R.locals ∧ cs ≤ R.cells ∧ ss ≤ R.slots) (kk : jJ E own cc nL rt R Z cs ss (pc + 3) ls (ji (max x y) :: st) I P) : jJ E own cc nL rt R Z cs ss pc ls (ji y :: ji x :: st) I P := by
  intro p e s m args below meth c H locs la hc hH hS hl h1 h2
  obtain ⟨-, m2, m3, m4, m5⟩ := hM
  rw [jmax_nm.1] at hN m2 m4
  rw [jmax_nm.2] at m4
  have hm : jR (max x y) := by have a1 : jR y := h2.1; have a2 : jR x := h2.2.1; constructor <;> omega
  have hw := kk p e s m args below meth c H locs la hc hH hS hl h1 ⟨hm, h2.2.2⟩
  refine va_mmax hc.1 hc.2.1 (hc.2.2.2.1.trans hl.size.symm) hc.2.2.2.2.1 (hc.2.2.2.2.2.1 _ hN) (hc.2.2.2.2.2.1 _ m2) (hc.2.2.2.2.2.1 _ m3) (hc.2.2.2.2.2.1 _ m4) hR.1 (by rw [List.map_map]; exact Nat.le_trans (Nat.add_le_add_right hst 13) (by have := hR.2.1; omega)) hR.2.2.1 hR.2.2.2 hd ?_
  have e1 : (if Int32.ofInt x < Int32.ofInt y then Int32.ofInt y else Int32.ofInt x) = Int32.ofInt (max x y) := by
    by_cases q : x < y
    · rw [if_pos ((j32_lt h2.2.1 h2.1).mpr q), Int.max_eq_right (by omega)]
    · rw [if_neg (fun z => q ((j32_lt h2.2.1 h2.1).mp z)), Int.max_eq_left (by omega)]
  rw [e1]
  exact hw
theorem jJ_min {idx : Nat} {x y : Int} (hd : decode cc pc = .ok (.invokestatic idx, 3)) (hM : jMs own idx yJ9_min_7cf53 cJ9_min_7cf53 2 (some .int) 2) (hN : Cond.methodLink own idx yJ9_min_7cf53 ∈ jT) (hst : (st.map (fun v => (jc v).category)).sum ≤ 8) (hR : 1 ≤ R.frames ∧ 60 ≤ R.locals ∧ cs ≤ R.cells ∧ ss ≤ R.slots) (kk : jJ E own cc nL rt R Z cs ss (pc + 3) ls (ji (min x y) :: st) I P) : jJ E own cc nL rt R Z cs ss pc ls (ji y :: ji x :: st) I P := by
  intro p e s m args below meth c H locs la hc hH hS hl h1 h2
  obtain ⟨-, m2, m3, m4, m5⟩ := hM
  rw [jmin_nm.1] at hN m2 m4
  rw [jmin_nm.2] at m4
  have hm : jR (min x y) := by have a1 : jR y := h2.1; have a2 : jR x := h2.2.1; constructor <;> omega
  have hw := kk p e s m args below meth c H locs la hc hH hS hl h1 ⟨hm, h2.2.2⟩
  refine va_mmin hc.1 hc.2.1 (hc.2.2.2.1.trans hl.size.symm) hc.2.2.2.2.1 (hc.2.2.2.2.2.1 _ hN) (hc.2.2.2.2.2.1 _ m2) (hc.2.2.2.2.2.1 _ m3) (hc.2.2.2.2.2.1 _ m4) hR.1 (by rw [List.map_map]; exact Nat.le_trans (Nat.add_le_add_right hst 13) (by have := hR.2.1; omega)) hR.2.2.1 hR.2.2.2 hd ?_
  have e1 : ∀ z : Int32, z = Int32.ofInt (min x y) → jc (ji (min x y)) = .int z := fun z hz => by rw [hz]; rfl
  first
    | (have e2 : (if Int32.ofInt x < Int32.ofInt y then Int32.ofInt x else Int32.ofInt y) = Int32.ofInt (min x y) := by
        by_cases q : x < y
        · rw [if_pos ((j32_lt h2.2.1 h2.1).mpr q), Int.min_eq_left (by omega)]
        · rw [if_neg (fun z => q ((j32_lt h2.2.1 h2.1).mp z)), Int.min_eq_right (by omega)]
       rw [e2]; exact hw)
    | (have e2 : (if Int32.ofInt y < Int32.ofInt x then Int32.ofInt y else Int32.ofInt x) = Int32.ofInt (min x y) := by
        by_cases q : y < x
        · rw [if_pos ((j32_lt h2.1 h2.2.1).mpr q), Int.min_eq_right (by omega)]
        · rw [if_neg (fun z => q ((j32_lt h2.1 h2.2.1).mp z)), Int.min_eq_left (by omega)]
       rw [e2]; exact hw)
theorem jRm_1 {d : Nat} (h : 1 ≤ d) : 1 ≤ (jRm d).frames ∧ 60 ≤ (jRm d).locals ∧ 0 ≤ (jRm d).cells ∧ 0 ≤ (jRm d).slots := ⟨h, by show 60 ≤ 60 * d; omega, Nat.le_refl _, Nat.le_refl _⟩
end JDet
