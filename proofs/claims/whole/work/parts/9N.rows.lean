section JRows
variable {E E0 : jE} {I I0 J : jI} {P P0 : jP} {b : Nat} {rs : List (Nat × Nat × Nat × Nat)} {zv : Nat → Nat → Int}
/-- rows (field, kind, length, address) were made and put into b's fields -/
def RM (zv : Nat → Nat → Int) (E0 : jE) (I0 : jI) (P0 : jP) (b : Nat) (rs : List (Nat × Nat × Nat × Nat)) (E : jE) (I : jI) (P : jP) : Prop :=
  eSame E0 E ∧ b ∈ eL E0 ∧ eL E = eL E0 ++ rs.map (fun z => z.2.2.2) ∧ (∀ a, a ∈ eL E0 → eK E a = eK E0 a ∧ eN E a = eN E0 a ∧ I a = I0 a ∧ (a ≠ b → P a = P0 a)) ∧ (∀ k, (∀ z ∈ rs, z.1 ≠ k) → P b k = P0 b k) ∧ (∀ z ∈ rs, z.2.2.2 ∉ eL E0 ∧ eK E z.2.2.2 = z.2.1 ∧ eN E z.2.2.2 = z.2.2.1 ∧ P b z.1 = some z.2.2.2 ∧ (∀ j, I z.2.2.2 j = zv z.1 j) ∧ ∀ j, P z.2.2.2 j = none) ∧ ∀ y ∈ rs, ∀ z ∈ rs, y.2.2.2 = z.2.2.2 → y.1 = z.1
theorem RM.nil (hb : b ∈ eL E0) : RM zv E0 I0 P0 b [] E0 I0 P0 := ⟨eSame.rf, hb, by simp, fun a _ => ⟨rfl, rfl, rfl, fun _ => rfl⟩, fun _ _ => rfl, fun z hz => absurd hz (List.not_mem_nil), fun y hy => absurd hy (List.not_mem_nil)⟩
theorem RM.step {k kd n r : Nat} (h : RM zv E0 I0 P0 b rs E I P) (hr : r ∉ eL E) (hk : ∀ z ∈ rs, z.1 ≠ k) (hJ : ∀ a, a ≠ r → J a = I a) (hJ0 : ∀ j, J r j = zv k j) : RM zv E0 I0 P0 b (rs ++ [(k, kd, n, r)]) (eAdd E r kd n) J (jputP (zP P r) b k (some r)) := by
  obtain ⟨a1, a2, a3, a4, a5, a6, a7⟩ := h
  have hin : ∀ a, a ∈ eL E0 → a ∈ eL E := fun a ha => by rw [a3]; exact List.mem_append_left _ ha
  have hrow : ∀ z ∈ rs, z.2.2.2 ∈ eL E := fun z hz => by rw [a3]; exact List.mem_append_right _ (List.mem_map.mpr ⟨z, hz, rfl⟩)
  have hr0 : r ∉ eL E0 := fun z => hr (hin r z)
  have hbr : b ≠ r := fun z => hr (by rw [← z]; exact hin b a2)
  have ek : ∀ a, a ≠ r → eK (eAdd E r kd n) a = eK E a := fun a ha => va_up_ne _ _ ha
  have en : ∀ a, a ≠ r → eN (eAdd E r kd n) a = eN E a := fun a ha => va_up_ne _ _ ha
  refine ⟨a1.tr eSame.add, a2, ?_, fun a ha => ?_, fun k' hk' => ?_, fun z hz => ?_, fun y hy z hz e => ?_⟩
  · show eL E ++ [r] = _
    rw [a3, List.map_append, List.append_assoc]
    rfl
  · have har : a ≠ r := fun z => hr0 (by rw [← z]; exact ha)
    obtain ⟨g1, g2, g3, g4⟩ := a4 a ha
    refine ⟨(ek a har).trans g1, (en a har).trans g2, (hJ a har).trans g3, fun hab => ?_⟩
    rw [← g4 hab, ← zP_n (P := P) har]
    funext j
    simp [jputP, hab]
  · rw [← a5 k' (fun z hz => hk' z (List.mem_append_left _ hz))]
    have : k' ≠ k := fun z => hk' (k, kd, n, r) (List.mem_append_right _ List.mem_cons_self) z.symm
    simp [jputP, this, zP_n hbr]
  · rcases List.mem_append.mp hz with h | h
    · obtain ⟨g1, g2, g3, g4, g5⟩ := a6 z h
      have hzr : z.2.2.2 ≠ r := fun e => hr (by rw [← e]; exact hrow z h)
      have hzb : z.2.2.2 ≠ b := fun e => g1 (by rw [e]; exact a2)
      refine ⟨g1, (ek _ hzr).trans g2, (en _ hzr).trans g3, ?_, fun j => by rw [hJ _ hzr]; exact g5.1 j, fun j => ?_⟩
      · simp [jputP, hk z h, zP_n hbr]
        exact g4
      · simp [jputP, hzb, zP_n hzr]
        exact g5.2 j
    · obtain rfl := List.mem_singleton.mp h
      exact ⟨hr0, va_up_self _ _ _, va_up_self _ _ _, by simp [jputP], hJ0, fun j => by simp [jputP, Ne.symm hbr, zP]⟩
  · rcases List.mem_append.mp hy with h | h <;> rcases List.mem_append.mp hz with h' | h'
    · exact a7 y h z h' e
    · obtain rfl := List.mem_singleton.mp h'
      exact absurd (hrow y h) (by rw [e]; exact hr)
    · obtain rfl := List.mem_singleton.mp h
      exact absurd (hrow z h') (by rw [← e]; exact hr)
    · obtain rfl := List.mem_singleton.mp h
      obtain rfl := List.mem_singleton.mp h'
      rfl
theorem RM.jk {ci : Nat} (h : RM zv E0 I0 P0 b rs E I P) (hb : eK E0 b = ci) : jK E ci b := ⟨by rw [h.2.2.1]; exact List.mem_append_left _ h.2.1, ((h.2.2.2.1 b h.2.1).1).trans hb⟩
/-- int fields of b were put besides -/
theorem RM.put {k : Nat} {v : Int} (h : RM zv E0 I0 P0 b rs E I P) : RM zv E0 (jput I0 b k v) P0 b rs E (jput I b k v) P := by
  obtain ⟨a1, a2, a3, a4, a5, a6, a7⟩ := h
  refine ⟨a1, a2, a3, fun a ha => ?_, a5, fun z hz => ?_, a7⟩
  · obtain ⟨g1, g2, g3, g4⟩ := a4 a ha
    refine ⟨g1, g2, ?_, g4⟩
    funext j
    simp only [jput, g3]
  · obtain ⟨g1, g2, g3, g4, g5⟩ := a6 z hz
    refine ⟨g1, g2, g3, g4, fun j => ?_, g5.2⟩
    rw [jput_a _ (fun e => g1 (by rw [e]; exact a2))]
    exact g5.1 j
variable {own : String} {cc : ByteArray} {nL : Nat} {rt : Option FieldType} {R : Room} {cs ss pc : Nat} {ls : List (Option jV)} {st : List jV} {Q : jE → jI → jP → Prop} {A : State → Prop}
/-- a row is made and put into a final field -/
theorem mk_row {EZ : jE} {atype : ArrayType} {idx ci k kd n mc ms : Nat} (h : RM zv E0 I0 P0 b rs E I P) (hb : eK E0 b = ci) (hd : decode cc pc = .ok (.newarray atype, 2)) (hkd : (atype = .byte ∧ kd = 8) ∨ (atype = .int ∧ kd = 9) ∨ (atype = .boolean ∧ kd = 10) ∨ (atype = .long ∧ kd = 14)) (harr : Cond.arrayClass (newarray.typeOf atype) ∈ jT) (hn : n ≤ 100000) (hR : cs + 1 ≤ R.cells ∧ ss + n ≤ R.slots) (hd2 : decode cc (pc + 2) = .ok (.putfield idx, 3)) (hF : jFf own idx ci k) (hr : jIsR (jTy ci k) = true) (hv : ∀ b : Nat, narrow (jTy ci k) (.ref b) = .ref b ∧ fits (jTy ci k) (.ref b) = true) (hk : ∀ z ∈ rs, z.1 ≠ k) (hz : ∀ j, zv k j = 0)
    (kk : ∀ r E1 I1 P1, RM zv E0 I0 P0 b (rs ++ [(k, kd, n, r)]) E1 I1 P1 → jJ E1 own cc nL rt R (jZn EZ Q A mc ms) (cs + 1) (ss + n) (pc + 5) ls st I1 P1) : jJ E own cc nL rt R (jZn EZ Q A mc ms) cs ss pc ls (ji (n : Int) :: jp b :: st) I P := by
  refine jJ_newa hd hkd harr hn hR (fun r hr0 => ?_)
  have hjk := h.jk hb
  have hbr : b ≠ r := fun z => hr0 (by rw [← z]; exact hjk.1)
  refine jJ_putrF hd2 hF hr (hv r) (show jK (eAdd E r kd n) ci b from ⟨List.mem_append_left _ hjk.1, (va_up_ne _ _ hbr).trans hjk.2⟩) ?_
  exact kk r _ _ _ (h.step hr0 hk (fun a ha => zI_n ha) (fun j => zI_s.trans (hz j).symm))
end JRows
