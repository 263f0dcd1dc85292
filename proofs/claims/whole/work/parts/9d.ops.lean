section JOps
variable {E : jE} {I : jI} {P : jP} {h m d : Nat} {c t hb a : Nat → Nat} {u : Nat → Nat → Nat} {C : Nat → Prop} {tp l : List Int} {th nb : Nat → Int} {X : Nat → TX} {S : Nat → Nat → Int}
/-- a call of the class that only reads -/
theorem k_ro {y : MethodName} {cc : ByteArray} {n mk : Nat} {rt : Option FieldType} {as : List jV} {cond : Prop} {ans : Int} {nm : String} {er : String → Int → Prop} {ec : Int} {σ : jSt} (hK : KT E C h c t u hb I P σ) (her : er nm ec) (hk : jCx E y cc n rt d mk as I P (jDc cond (some (ji ans)) I P) (jXx (¬ cond) nm I P)) : jCx E y cc n rt d mk as I P (kQ E C h c t u hb I P cond ans σ) (kX I P cond er ec) := by
  refine jCx_mono hk ?_ ?_
  · rintro v I' P' ⟨z, rfl, rfl, rfl⟩
    exact ⟨z, rfl, hK, FR.rf⟩
  · rintro Ec I' P' ⟨z, rfl, rfl, rfl⟩
    exact ⟨z, her, rfl, rfl⟩
theorem k_mv {y : MethodName} {cc : ByteArray} {n mk : Nat} {rt : Option FieldType} {as : List jV} {cond : Prop} {nm : String} {er : String → Int → Prop} {ec : Int} {Q : Option jV → jI → jP → Prop} {Q' : Option jV → jI → jP → Prop} (her : er nm ec) (hk : jCx E y cc n rt d mk as I P Q (jXx (¬ cond) nm I P)) (hq : ∀ v I' P', Q v I' P' → Q' v I' P') : jCx E y cc n rt d mk as I P Q' (kX I P cond er ec) := by
  refine jCx_mono hk hq ?_
  rintro Ec I' P' ⟨z, rfl, rfl, rfl⟩
  exact ⟨z, her, rfl, rfl⟩
end JOps
