section JGrow
/-- one object more -/
def eAdd (E : jE) (b k n : Nat) : jE := (eX E, eZ E, eD E, eCy E, eL E ++ [b], va_up (eK E) b k, va_up (eN E) b n, eSk E, eSv E)
def zI (I : jI) (b : Nat) : jI := fun a j => if a = b then 0 else I a j
def zP (P : jP) (b : Nat) : jP := fun a j => if a = b then none else P a j
theorem zI_s {I : jI} {b j : Nat} : zI I b b j = 0 := if_pos rfl
theorem zI_n {I : jI} {b a : Nat} (h : a ≠ b) : zI I b a = I a := by funext j; exact if_neg h
theorem zP_s {P : jP} {b j : Nat} : zP P b b j = none := if_pos rfl
theorem zP_n {P : jP} {b a : Nat} (h : a ≠ b) : zP P b a = P a := by funext j; exact if_neg h
variable {E : jE} {own : String} {cc : ByteArray} {nL : Nat} {rt : Option FieldType} {R : Room} {Z : Code → List Frame → Array Value → State → State → Prop} {cs ss pc : Nat} {ls : List (Option jV)} {st : List jV} {I : jI} {P : jP}
theorem jCell_add {a b k n : Nat} (h : a ≠ b) : jCell (eAdd E b k n) (zI I b) (zP P b) a = jCell E I P a := by
  have e1 : eK (eAdd E b k n) a = eK E a := va_up_ne _ _ h
  have e2 : eN (eAdd E b k n) a = eN E a := va_up_ne _ _ h
  have e0 : eCy (eAdd E b k n) = eCy E := rfl
  unfold jCell jFs jFv
  simp only [e1, e2, e0, zI_n h, zP_n h]
theorem jHp_add {b k n : Nat} {e : va_E} {H : Heap} (hP : va_P (eD E) vwCl (jPool E I P ++ [(b, e)]) H) (hD : va_D (jA E) (jPool E I P ++ [(b, e)])) (he : jCell (eAdd E b k n) (zI I b) (zP P b) b = e) (hI : jRI I) : b ∉ eL E ∧ jHp (eAdd E b k n) (zI I b) (zP P b) H := by
  have hb : b ∉ eL E := va_pl_fresh2 (X := []) hD
  have eq : jPool E I P ++ [(b, e)] = jPool (eAdd E b k n) (zI I b) (zP P b) := by
    unfold jPool
    rw [va_pl_push hb]
    refine va_pl_congr (fun a => ?_)
    by_cases h : a = b
    · subst h
      rw [va_up_self, he]
    · rw [va_up_ne _ _ h, jCell_add h]
  rw [eq] at hP hD
  refine ⟨hb, hP, hD, fun a j => ?_⟩
  unfold zI
  split
  · exact jR0
  · exact hI a j
theorem jCtx_add {b k n : Nat} {p : Program} {s : State} {m : MethodId} {args : Array Value} {meth : Method} {c : Code} (h : jCtx E own cc nL rt p s m args meth c) : jCtx (eAdd E b k n) own cc nL rt p s m args meth c := h
theorem jCy_u {s : State} {cA : ClassId} {ty : FieldType} {k i : Nat} (hK : va_K (eD E) vwCl (jTys E ++ [(cA, ty)]) s) (hi : (jTys E)[i]? = some (eCy E k, ty)) : cA = eCy E k := by
  have hl : i < (jTys E).length := (List.getElem?_eq_some_iff.mp hi).1
  have h1 := (hK.2 i (eCy E k, ty) (by rw [List.getElem?_append_left hl]; exact hi)).2
  have h2 := (hK.2 (jTys E).length (cA, ty) (by rw [List.getElem?_append_right (Nat.le_refl _), Nat.sub_self]; rfl)).2
  unfold va_RA at h1 h2
  cases ty with
  | object C =>
    obtain ⟨_, _, _, _, _, f1⟩ := h1
    obtain ⟨_, _, _, _, _, f2⟩ := h2
    exact Option.some.inj (f2.symm.trans f1)
  | _ => exact Option.some.inj (h2.symm.trans h1)
theorem jJ_newa {atype : ArrayType} {k n : Nat} (hd : decode cc pc = .ok (.newarray atype, 2)) (hk : (atype = .byte ∧ k = 8) ∨ (atype = .int ∧ k = 9) ∨ (atype = .boolean ∧ k = 10) ∨ (atype = .long ∧ k = 14)) (harr : Cond.arrayClass (newarray.typeOf atype) ∈ jT) (hn : n ≤ 100000) (hR : cs + 1 ≤ R.cells ∧ ss + n ≤ R.slots) (kk : ∀ b, b ∉ eL E → jJ (eAdd E b k n) own cc nL rt R Z (cs + 1) (ss + n) (pc + 2) ls (jp b :: st) (zI I b) (zP P b)) : jJ E own cc nL rt R Z cs ss pc ls (ji (n : Int) :: st) I P := by
  intro p e s m args below meth c H locs la hc hH hS hl h1 h2
  obtain ⟨hP, hD, hI⟩ := hH
  have hA : ∀ q, s.heap.size ≤ q → jA E q := fun q hq => Nat.le_trans hc.2.2.2.2.2.2.2.2.2 hq
  have hr : jR (n : Int) := h2.1
  have h0 : ¬ Int32.ofInt (n : Int) < 0 := by rw [j32_lt0 hr]; omega
  have hN : (Int32.ofInt (n : Int)).toNatClampNeg = n := by rw [j32_clamp hr (by omega)]; exact Int.toNat_natCast n
  have go : ∀ (ty : FieldType) (i : Nat) (a0 : vp_A), newarray.typeOf atype = ty → (∀ cA : ClassId, vp_cell cA a0 = arrV cA n (fun _ => defaultValue ty)) → n * componentBytes ty ≤ 536870912 → (jTys E)[i]? = some (eCy E k, ty) → (∀ b, jCell (eAdd E b k n) (zI I b) (zP P b) b = .inl (eCy E k, a0)) → W p (eX E) e R s m args below meth c H locs cs ss (Z c below args s) (F0 m pc la ((ji (n : Int) :: st).map jc)) := by
    intro ty i a0 hty ha hby hi hcell
    refine va_newa hc.1 hc.2.1 (hc.2.2.2.2.2.1 _ harr) hty hc.2.2.2.2.2.2.2.1 hP hD hS hA ha h0 hN hby hR.1 hR.2 hd ?_
    intro b cA H1 hK1 hP1 hD1 hS1
    rw [jCy_u hK1 hi] at hP1 hD1
    obtain ⟨hb, hH1⟩ := jHp_add hP1 hD1 (hcell b) hI
    exact kk b hb p e s m args below meth c H1 locs la (jCtx_add hc) hH1 hS1 hl h1 ⟨trivial, h2.2⟩
  have ek : ∀ b, eK (eAdd E b k n) b = k := fun b => va_up_self _ _ _
  have en : ∀ b, eN (eAdd E b k n) b = n := fun b => va_up_self _ _ _
  have cell : k < 11 → 8 ≤ k → ∀ b, jCell (eAdd E b k n) (zI I b) (zP P b) b = .inl (eCy E k, n, .inl (fun _ => 0)) := fun g1 g2 b => by
    unfold jCell
    rw [ek, en, if_neg (by omega), if_pos g1]
    simp only [zI_s]
    rfl
  rcases hk with ⟨rfl, rfl⟩ | ⟨rfl, rfl⟩ | ⟨rfl, rfl⟩ | ⟨rfl, rfl⟩
  · exact go .byte 0 (n, .inl (fun _ => 0)) rfl (fun _ => rfl) (by show n * 1 ≤ 536870912; omega) rfl (cell (by decide) (by decide))
  · exact go .int 1 (n, .inl (fun _ => 0)) rfl (fun _ => rfl) (by show n * 4 ≤ 536870912; omega) rfl (cell (by decide) (by decide))
  · exact go .boolean 2 (n, .inl (fun _ => 0)) rfl (fun _ => rfl) (by show n * 1 ≤ 536870912; omega) rfl (cell (by decide) (by decide))
  · refine go .long 6 (n, .inr (.inl (fun _ => 0))) rfl (fun _ => rfl) (by show n * 8 ≤ 536870912; omega) rfl (fun b => ?_)
    unfold jCell
    rw [ek, en, if_neg (by decide), if_neg (by decide), if_neg (by decide)]
    simp only [zI_s]
    rfl
end JGrow
