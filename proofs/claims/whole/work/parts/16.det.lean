section JDet
theorem jRm_ok {d d' n2 : Nat} (h : d' + 1 ≤ d) (hn : n2 ≤ 41) : d' + 1 ≤ (jRm d).frames ∧ 8 + (n2 + 11) + 60 * d' ≤ (jRm d).locals ∧ 0 ≤ (jRm d).cells ∧ 0 ≤ (jRm d).slots := by
  refine ⟨h, ?_, Nat.le_refl _, Nat.le_refl _⟩
  show 8 + (n2 + 11) + 60 * d' ≤ 60 * d
  omega
/-- just this answer, just this memory -/
def jD (v : Option jV) (I1 : jI) (P1 : jP) : Option jV → jI → jP → Prop := fun q I' P' => q = v ∧ I' = I1 ∧ P' = P1
def jb (p : Prop) [Decidable p] : Int := if p then 1 else 0
theorem jb_z {p : Prop} [Decidable p] : jb p = 0 ↔ ¬ p := by unfold jb; split <;> simp_all
theorem jb_nz {p : Prop} [Decidable p] : jb p ≠ 0 ↔ p := by unfold jb; split <;> simp_all
theorem jb_01 {p : Prop} [Decidable p] : jb p = 0 ∨ jb p = 1 := by unfold jb; split <;> simp
theorem jb_t {p : Prop} [Decidable p] (h : p) : (1 : Int) = jb p := by simp [jb, h]
theorem jb_f {p : Prop} [Decidable p] (h : ¬ p) : (0 : Int) = jb p := by simp [jb, h]
theorem jC_post {E : jE} {y : MethodName} {cc : ByteArray} {n d : Nat} {rt : Option FieldType} {as : List jV} {I : jI} {P : jP} {v v' : Option jV} {I1 I1' : jI} {P1 : jP} (h : jC E y cc n rt d as I P (jD v I1 P1)) (hv : v = v') (hI : I1 = I1') : jC E y cc n rt d as I P (jD v' I1' P1) := by
  subst hv; subst hI; exact h
variable {E : jE} {own : String} {cc : ByteArray} {nL : Nat} {rt : Option FieldType} {R : Room} {Z : Code → List Frame → Array Value → State → State → Prop} {cs ss pc : Nat} {ls : List (Option jV)} {st : List jV} {I : jI} {P : jP}
theorem jJ_callVd {idx n2 d b : Nat} {C : String} {y : MethodName} {c2 : ByteArray} {rt2 : Option FieldType} {as : List jV} {v : Option jV} {I1 : jI} {P1 : jP} (hd : decode cc pc = .ok (.invokevirtual idx, 3)) (hM : jMv own idx C y c2 n2 rt2 as.length) (hrc : jRcv E C b) (hst : (st.map (fun v => (jc v).category)).sum ≤ 8) (hR : d + 1 ≤ R.frames ∧ 8 + (n2 + 11) + 60 * d ≤ R.locals ∧ cs ≤ R.cells ∧ ss ≤ R.slots)
    (hC : jC E y c2 n2 rt2 d (jp b :: as) I P (jD v I1 P1)) (kk : jJ E own cc nL rt R Z cs ss (pc + 3) ls (v.toList ++ st) I1 P1) : jJ E own cc nL rt R Z cs ss pc ls (as.reverse ++ jp b :: st) I P :=
  jJ_callV hd hM hrc hst hR hC (fun r I' P' h => by obtain ⟨rfl, rfl, rfl⟩ := h; exact kk)
theorem jJ_callSd {idx n2 d : Nat} {y : MethodName} {c2 : ByteArray} {rt2 : Option FieldType} {as : List jV} {v : Option jV} {I1 : jI} {P1 : jP} (hd : decode cc pc = .ok (.invokestatic idx, 3)) (hM : jMs own idx y c2 n2 rt2 as.length) (hst : (st.map (fun v => (jc v).category)).sum ≤ 8) (hR : d + 1 ≤ R.frames ∧ 8 + (n2 + 11) + 60 * d ≤ R.locals ∧ cs ≤ R.cells ∧ ss ≤ R.slots)
    (hC : jC E y c2 n2 rt2 d as I P (jD v I1 P1)) (kk : jJ E own cc nL rt R Z cs ss (pc + 3) ls (v.toList ++ st) I1 P1) : jJ E own cc nL rt R Z cs ss pc ls (as.reverse ++ st) I P :=
  jJ_callS hd hM hst hR hC (fun r I' P' h => by obtain ⟨rfl, rfl, rfl⟩ := h; exact kk)
end JDet
