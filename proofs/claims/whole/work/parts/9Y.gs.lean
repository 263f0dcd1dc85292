section JGs
variable {E : jE} {I I' I1 I2 : jI} {P P' P1 : jP} {h m o : Nat} {c t hb a : Nat → Nat} {u : Nat → Nat → Nat} {C : Nat → Prop}
/-- what both hold: tape, which TEXTS there are, the TEXTS, numbers, THE STYLE, OUT -/
abbrev jSt : Type := List Int × (Nat → Int) × (Nat → TX) × (Nat → Int) × (Nat → Nat → Int) × List Int
variable {σ σ' : jSt}
def KT (E : jE) (C : Nat → Prop) (h : Nat) (c t : Nat → Nat) (u : Nat → Nat → Nat) (hb : Nat → Nat) (I : jI) (P : jP) (σ : jSt) : Prop := KS E C h c t u hb I P σ.1 σ.2.1 σ.2.2.1 σ.2.2.2.1 σ.2.2.2.2.1 σ.2.2.2.2.2
def RV (I : jI) (m : Nat) (a : Nat → Nat) (σ : jSt) : Prop := RW I m a σ.1 σ.2.1 σ.2.2.1 σ.2.2.2.1 σ.2.2.2.2.1 σ.2.2.2.2.2
def WV (σ : jSt) : Prop := WS σ.1 σ.2.1 σ.2.2.1 σ.2.2.2.1 σ.2.2.2.2.2
theorem KT.cg (hK : KT E C h c t u hb I P σ) (he : ∀ b, C b → I' b = I b) : KT E C h c t u hb I' P σ := by
  obtain ⟨x, q, hL, hD, hA, hS⟩ := hK
  exact ⟨x, q, hL, hD, hA, hS.cg hA he⟩
theorem KT.out {k : Nat} {v : Int} (hK : KT E C h c t u hb I P σ) (ho : ¬ C o) : KT E C h c t u hb (jput I o k v) P σ := hK.cg (fun b hb => by
  funext j
  exact jput_a _ (fun z => ho (by rw [← z]; exact hb)))
theorem KT.kh (hK : KT E C h c t u hb I P σ) : jK E 6 h := by
  obtain ⟨x, q, hL, -⟩ := hK
  exact hL.1
/-- what the class's call leaves -/
def kQ (E : jE) (C : Nat → Prop) (h : Nat) (c t : Nat → Nat) (u : Nat → Nat → Nat) (hb : Nat → Nat) (I : jI) (P : jP) (cond : Prop) (ans : Int) (σ' : jSt) : Option jV → jI → jP → Prop := fun r I' P' => cond ∧ r = some (ji ans) ∧ KT E C h c t u hb I' P' σ' ∧ FR C I P I' P'
def kX (I : jI) (P : jP) (cond : Prop) (er : String → Int → Prop) (ec : Int) : String → jI → jP → Prop := fun Ec I' P' => ¬ cond ∧ er Ec ec ∧ I' = I ∧ P' = P
def erI (Ec : String) (ec : Int) : Prop := Ec = jIAE ∧ ec = 1
def erN (Ec : String) (ec : Int) : Prop := Ec = jNSE ∧ ec = 1
def erB (Ec : String) (ec : Int) : Prop := (Ec = jNSE ∧ ec = 1) ∨ (Ec = jIAE ∧ ec = 2)
/-- what the law's own method around it leaves: the answer in o, or the number of what was thrown -/
def wQ (E : jE) (C : Nat → Prop) (h o : Nat) (c t : Nat → Nat) (u : Nat → Nat → Nat) (hb : Nat → Nat) (I : jI) (P : jP) (cond : Prop) (ans ec : Int) (σ σ' : jSt) : Option jV → jI → jP → Prop := fun r I' P' => FR (fun b => C b ∨ b = o) I P I' P' ∧ ((cond ∧ r = some (ji 0) ∧ I' o 0 = ans ∧ KT E C h c t u hb I' P' σ') ∨ (¬ cond ∧ r = some (ji ec) ∧ KT E C h c t u hb I' P' σ))
theorem wQ_1 {cond : Prop} {ans ec : Int} (ho : ¬ C o) (hc : cond) (hK : KT E C h c t u hb I' P' σ') (hF : FR C I P I' P') : wQ E C h o c t u hb I P cond ans ec σ σ' (some (ji 0)) (jput I' o 0 ans) P' := by
  refine ⟨fun b hb' => ?_, Or.inl ⟨hc, rfl, jput_s _ _ _ _, hK.out ho⟩⟩
  have := hF b (fun z => hb' (Or.inl z))
  refine ⟨?_, this.2⟩
  rw [← this.1]
  funext j
  exact jput_a _ (fun z => hb' (Or.inr z))
theorem wQ_0 {cond : Prop} {ans ec : Int} (hc : ¬ cond) (hK : KT E C h c t u hb I P σ) : wQ E C h o c t u hb I P cond ans ec σ σ' (some (ji ec)) I P := ⟨fun b _ => ⟨rfl, rfl⟩, Or.inr ⟨hc, rfl, hK⟩⟩
/-- both hold the same, and lie apart -/
def GS (E : jE) (C : Nat → Prop) (h m o : Nat) (c t : Nat → Nat) (u : Nat → Nat → Nat) (hb a : Nat → Nat) (I : jI) (P : jP) (σ : jSt) : Prop := KT E C h c t u hb I P σ ∧ RfL E P m a ∧ RV I m a σ ∧ WV σ ∧ AP C m a ∧ jAr E 14 o 1 ∧ ¬ C o ∧ o ≠ m ∧ ∀ j, j ∈ rfK → o ≠ a j
theorem RfL.cg (hR : RfL E P m a) (he : P' m = P m) : RfL E P' m a := ⟨hR.1, fun z hz => by rw [he]; exact hR.2.1 z hz, hR.2.2⟩
/-- behind the class's call the reference is as it was -/
theorem GS.mid (hG : GS E C h m o c t u hb a I P σ) (hF : FR (fun b => C b ∨ b = o) I P I1 P1) : RfL E P1 m a ∧ RV I1 m a σ := by
  obtain ⟨-, h2, h3, -, h5, -, -, h8, h9⟩ := hG
  have hm : ¬ (C m ∨ m = o) := fun z => z.elim (fun w => (h5 m w).1 rfl) (fun w => h8 w.symm)
  refine ⟨h2.cg (hF m hm).2, RW.cg h3 (fun j hj => (hF (a j) (fun z => z.elim (fun w => (h5 _ w).2 j hj rfl) (fun w => h9 j hj w.symm))).1) (fun k _ _ => by rw [(hF m hm).1])⟩
/-- behind both calls -/
theorem GS.fin (hG : GS E C h m o c t u hb a I P σ) (hF : FR (fun b => C b ∨ b = o) I P I1 P1) (hK : KT E C h c t u hb I1 P1 σ') (hR : RF m a I1 I2) (hV : RV I2 m a σ') (hW : WV σ') : GS E C h m o c t u hb a I2 P1 σ' ∧ I2 o = I1 o := by
  have hm := (hG.mid hF).1
  obtain ⟨-, h2, h3, -, h5, h6, h7, h8, h9⟩ := hG
  exact ⟨⟨hK.cg (fun b hb' => hR b (h5 b hb').1 (h5 b hb').2), hm, hV, hW, h5, h6, h7, h8, h9⟩, hR o h8 h9⟩
end JGs
