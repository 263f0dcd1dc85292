section JMov
variable {E : jE} {I I' : jI} {P P' : jP} {d h m : Nat} {c x t hb a : Nat → Nat} {q u : Nat → Nat → Nat} {C : Nat → Prop} {tp l : List Int} {th nb : Nat → Int} {X : Nat → TX} {S : Nat → Nat → Int}
/-- the class lies, and holds -/
def KS (E : jE) (C : Nat → Prop) (h : Nat) (c t : Nat → Nat) (u : Nat → Nat → Nat) (hb : Nat → Nat) (I : jI) (P : jP) (tp : List Int) (th : Nat → Int) (X : Nat → TX) (nb : Nat → Int) (S : Nat → Nat → Int) (l : List Int) : Prop := ∃ x q, CL E P h c x q t u hb ∧ CD c x q u hb ∧ CA C h c x q t u hb ∧ CS I h c x q hb tp th X nb S l
/-- nothing but the class's has changed -/
def FR (C : Nat → Prop) (I : jI) (P : jP) (I' : jI) (P' : jP) : Prop := ∀ b, ¬ C b → I' b = I b ∧ P' b = P b
theorem FR.rf : FR C I P I P := fun _ _ => ⟨rfl, rfl⟩
theorem FR.put {b k : Nat} {v : Int} (hb : C b) : FR C I P (jput I b k v) P := fun b' hb' => ⟨by funext j; exact jput_a _ (fun e => hb' (by rw [e]; exact hb)), rfl⟩
theorem FR.tr {J : jI} {Q : jP} (h1 : FR C I P I' P') (h2 : FR C I' P' J Q) : FR C I P J Q := fun b hb => ⟨(h2 b hb).1.trans (h1 b hb).1, (h2 b hb).2.trans (h1 b hb).2⟩
/-- nothing but the reference's has changed -/
def RF (m : Nat) (a : Nat → Nat) (I I' : jI) : Prop := ∀ b, b ≠ m → (∀ j, j ∈ rfK → b ≠ a j) → I' b = I b
/-- the reference answers and goes on to R1 where cond holds, and throws and stays where not -/
def rM (I : jI) (P : jP) (m : Nat) (a : Nat → Nat) (cond : Prop) (ans ec : Int) (R1 R0 : jI → Prop) : Option jV → jI → jP → Prop := fun v I' P' => P' = P ∧ RF m a I I' ∧ ((cond ∧ v = some (ji ans) ∧ I' m 0 = 0 ∧ R1 I') ∨ (¬ cond ∧ (∃ w, v = some (ji w)) ∧ I' m 0 = ec ∧ R0 I'))
theorem rO_rM {y : MethodName} {cc : ByteArray} {k : Nat} {rt : Option FieldType} {as : List jV} {cond : Prop} {ans ec : Int} (hR : RfL E P m a) (hS : RW I m a tp th X nb S l) (hc : jC E y cc k rt d as I P (rO I P m cond ans ec)) : jC E y cc k rt d as I P (rM I P m a cond ans ec (fun I' => RW I' m a tp th X nb S l) (fun I' => RW I' m a tp th X nb S l)) := by
  refine jC_mono hc ?_
  rintro v J P' ⟨rfl, z⟩
  rcases z with ⟨z1, z2, rfl⟩ | ⟨z1, z2, rfl⟩
  · exact ⟨rfl, fun b h1 _ => by funext j; exact jput_a _ h1, Or.inl ⟨z1, z2, jput_s _ _ _ _, hS.p0 hR _⟩⟩
  · exact ⟨rfl, fun b h1 _ => by funext j; exact jput_a _ h1, Or.inr ⟨z1, ⟨_, z2⟩, jput_s _ _ _ _, hS.p0 hR _⟩⟩
/-! price -/
def nbP (nb : Nat → Int) (w v : Int) : Nat → Int := if w = 0 then su nb 2 v else su nb 3 v
theorem WS.num {nb' : Nat → Int} (hW : WS tp th X nb l) (h2 : 0 ≤ nb' 2 ∧ nb' 2 ≤ 100) (h3 : 0 ≤ nb' 3 ∧ nb' 3 ≤ 100) (h5 : nb' 5 = nb 5) (h6 : nb' 6 = nb 6) : WS tp th X nb' l := by
  obtain ⟨a1, a2, a3, a4, a5⟩ := hW
  exact ⟨a1, a2, ⟨h2, h3⟩, a4, by rw [h5, h6]; exact a5⟩
theorem WS.price {w v : Int} (hW : WS tp th X nb l) (hv : 0 ≤ v ∧ v ≤ 100) : WS tp th X (nbP nb w v) l := by
  have h := hW.2.2.1
  unfold nbP
  split
  · exact hW.num hv h.2 rfl rfl
  · exact hW.num h.1 hv rfl rfl
theorem CL.xh (hL : CL E P h c x q t u hb) {i : Nat} (hi : i ≤ 12) : x i ≠ h := jne (hL.2.2.2.2.1 i hi).1.2 hL.1.2 (by decide)
theorem CL.qh (hL : CL E P h c x q t u hb) {i j : Nat} (hi : i ≤ 12) (hj : j ≤ 7) : q i j ≠ h := by
  rcases (hL.2.2.2.2.1 i hi).kq j hj with z | z
  · exact jne z hL.1.2 (by decide)
  · exact jne z hL.1.2 (by decide)
theorem CL.hh (hL : CL E P h c x q t u hb) {k : Nat} (hk : k < 16) : hb k ≠ h := jne (hL.2.2.2.2.2.2.2.1.2.2 k hk).2.2 hL.1.2 (by decide)
theorem CL.ch (hL : CL E P h c x q t u hb) : c 0 ≠ h ∧ c 6 ≠ h ∧ c 7 ≠ h := ⟨jne hL.2.1.2.2.1 hL.1.2 (by decide), jne hL.2.2.2.2.2.2.2.2.2.2.1.2 hL.1.2 (by decide), jne hL.2.2.2.2.2.2.2.2.2.2.2.2.1.2.1 hL.1.2 (by decide)⟩
/-- only the numbers of the class's object have changed -/
theorem CS.num {nb' : Nat → Int} {tp' : List Int} (hS : CS I h c x q hb tp th X nb S l) (hL : CL E P h c x q t u hb) (he : ∀ b, b ≠ h → I' b = I b) (h1 : I' h 1 = (tp'.length : Int)) (htp : ∀ k, k < tp'.length → tp'.getD k 0 = tp.getD k 0 ∧ k < tp.length) (h2 : I' h 5 = nb' 0 ∧ I' h 6 = nb' 1 ∧ I' h 7 = nb' 2 ∧ I' h 8 = nb' 3 ∧ I' h 11 = nb' 4 ∧ I' h 13 = nb' 5) (h4 : nb' 4 = nb 4) : CS I' h c x q hb tp' th X nb' S l := by
  unfold CS at *
  have hc := hL.ch
  rw [he _ hc.1, he _ hc.2.1, he _ hc.2.2]
  refine ⟨⟨h1, fun k hk => by rw [(htp k hk).1]; exact hS.1.2.1 k (htp k hk).2, hS.1.2.2⟩, fun i hi => ?_, h2, fun z k j hk hj => ?_, hS.2.2.2.2⟩
  · rw [he _ (hL.xh (by omega))]
    exact ⟨(hS.2.1 i hi).1, fun z => ((hS.2.1 i hi).2 z).cg (fun k _ _ => by rw [he _ (hL.xh (by omega))]) (fun j hj => he _ (hL.qh (by omega) hj))⟩
  · rw [he _ (hL.hh hk)]
    exact hS.2.2.2.1 (by rw [← h4]; exact z) k j hk hj
theorem CS.num1 {nb' : Nat → Int} (hS : CS I h c x q hb tp th X nb S l) (hL : CL E P h c x q t u hb) (he : ∀ b, b ≠ h → I' b = I b) (h1 : I' h 1 = I h 1) (h2 : I' h 5 = nb' 0 ∧ I' h 6 = nb' 1 ∧ I' h 7 = nb' 2 ∧ I' h 8 = nb' 3 ∧ I' h 11 = nb' 4 ∧ I' h 13 = nb' 5) (h4 : nb' 4 = nb 4) : CS I' h c x q hb tp th X nb' S l := hS.num hL he (h1.trans hS.1.1) (fun k hk => ⟨rfl, hk⟩) h2 h4
theorem k_price {w v : Int} (hl : (eX E).stackTraces = false) (hK : KS E C h c t u hb I P tp th X nb S l) (hd : 6 ≤ d) : jCx E yX6_price cX6_price 4 (some .int) d 1 [jp h, ji w, ji v] I P (fun r I' P' => ((0 ≤ w ∧ w ≤ 1) ∧ 0 ≤ v ∧ v ≤ 100) ∧ r = some (ji (if w = 0 then nb 2 else nb 3)) ∧ KS E C h c t u hb I' P' tp th X (nbP nb w v) S l ∧ FR C I P I' P') (jXx (¬ ((0 ≤ w ∧ w ≤ 1) ∧ 0 ≤ v ∧ v ≤ 100)) jIAE I P) := by
  obtain ⟨x, q, hL, hD, hA, hS⟩ := hK
  obtain ⟨n5, n6, n7, n8, n11, n13⟩ := hS.2.2.1
  refine jCx_mono (c_price hl hL.1 hd) ?_ (fun _ _ _ z => z)
  rintro r J P' ⟨z, rfl, rfl, rfl⟩
  rw [n7, n8]
  refine ⟨z, rfl, ⟨x, q, hL, hD, hA, ?_⟩, ?_⟩
  · unfold nbP
    split
    · refine hS.num1 hL (fun b hb => by funext j; exact jput_a _ hb) (jput_k _ (by decide)) ?_ rfl
      rw [jput_k _ (by decide), jput_k _ (by decide), jput_s, jput_k _ (by decide), jput_k _ (by decide), jput_k _ (by decide)]
      exact ⟨n5, n6, rfl, n8, n11, n13⟩
    · refine hS.num1 hL (fun b hb => by funext j; exact jput_a _ hb) (jput_k _ (by decide)) ?_ rfl
      rw [jput_k _ (by decide), jput_k _ (by decide), jput_k _ (by decide), jput_s, jput_k _ (by decide), jput_k _ (by decide)]
      exact ⟨n5, n6, n7, rfl, n11, n13⟩
  · split
    · exact FR.put hA.1
    · exact FR.put hA.1
theorem m_price {w v : Int} (hR : RfL E P m a) (hS : RW I m a tp th X nb S l) (hd : 1 ≤ d) : jC E yX7_price cX7_price 4 (some .int) d [jp m, ji w, ji v] I P (rM I P m a ((0 ≤ w ∧ w ≤ 1) ∧ 0 ≤ v ∧ v ≤ 100) (if w = 0 then nb 2 else nb 3) 1 (fun I' => RW I' m a tp th X (nbP nb w v) S l) (fun I' => RW I' m a tp th X nb S l)) := by
  refine jC_mono (r_price hR hd) ?_
  rintro r J P' ⟨rfl, rfl, rfl⟩
  refine ⟨rfl, ?_, ?_⟩
  · intro b h1 h2
    funext j
    split
    · rw [jput_a _ (h2 17 (by decide)), jput_a _ h1]
    · rw [jput_a _ h1]
  · by_cases z : 0 ≤ w ∧ w ≤ 1 ∧ 0 ≤ v ∧ v ≤ 100
    · rw [if_pos z, if_pos z]
      have hn := hR.n17
      refine Or.inl ⟨by omega, ?_, ?_, ?_⟩
      · by_cases y : w = 0
        · rw [if_pos y, y, ← hS.2.2.1.2.2.1]; rfl
        · rw [if_neg y, show w = 1 by omega, ← hS.2.2.1.2.2.2.1]; rfl
      · rw [jput_a _ (Ne.symm hn), jput_s]
      · have h0 := hS.p0 hR 0
        generalize jput I m 0 0 = K at h0
        have em : ∀ k, jput K (a 17) w.toNat v m k = K m k := fun k => jput_a _ (Ne.symm hn)
        have er : ∀ j, j ∈ rfK → j ≠ 17 → jput K (a 17) w.toNat v (a j) = K (a j) := fun j hj h17 => jput_row (hR.d hj (by decide) h17)
        unfold RW at *
        simp only [em]
        rw [er 1 (by decide) (by decide), er 5 (by decide) (by decide), er 19 (by decide) (by decide)]
        refine ⟨h0.1, fun i hi => ⟨(h0.2.1 i hi).1, fun h5 => ((h0.2.1 i hi).2 h5).cg (fun j g1 g2 => er j (rfK_515 j (by omega) g2) (by omega))⟩, ?_, fun h4 k j g1 g2 => ?_, h0.2.2.2.2⟩
        · obtain ⟨e3, e4, e0, e1, e16, e21⟩ := h0.2.2.1
          unfold nbP
          by_cases y : w = 0
          · subst y
            rw [if_pos rfl]
            refine ⟨e3, e4, ?_, ?_, e16, e21⟩
            · rw [show (0 : Int).toNat = 0 from rfl, jput_s]; rfl
            · rw [show (0 : Int).toNat = 0 from rfl, jput_k _ (by decide)]; exact e1
          · obtain rfl : w = 1 := by omega
            rw [if_neg (by decide)]
            refine ⟨e3, e4, ?_, ?_, e16, e21⟩
            · rw [show (1 : Int).toNat = 1 from rfl, jput_k _ (by decide)]; exact e0
            · rw [show (1 : Int).toNat = 1 from rfl, jput_s]; rfl
        · rw [er 18 (by decide) (by decide)]
          refine h0.2.2.2.1 ?_ k j g1 g2
          unfold nbP at h4
          split at h4
          · exact h4
          · exact h4
    · rw [if_neg z, if_neg z]
      exact Or.inr ⟨by omega, ⟨_, rfl⟩, jput_s _ _ _ _, hS.p0 hR _⟩
end JMov
