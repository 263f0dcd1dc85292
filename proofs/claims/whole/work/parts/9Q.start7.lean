section JSt7
variable {E E' : jE} {I I' : jI} {P P' : jP} {b : Nat} {a : Nat → Nat} {rs : List (Nat × Nat × Nat × Nat)} {X : Nat → TX} {S : Nat → Nat → Int}
/-- the numbers at the start -/
def nb0 : Nat → Int := fun j => if j = 1 ∨ j = 5 ∨ j = 6 then -1 else if j = 2 then 5 else if j = 3 then 2 else 0
theorem WS_0 : WS [] (fun _ => 0) X nb0 [] := ⟨⟨by decide, fun b hb => absurd hb (List.not_mem_nil)⟩, fun t _ => ⟨Or.inl rfl, fun z => absurd rfl z⟩, ⟨by decide, by decide⟩, ⟨by decide, fun b hb => absurd hb (List.not_mem_nil)⟩, Or.inl rfl⟩
/-- the reference lies, and holds the start -/
theorem rf_start (h : RM zv7 E I P b rs E' I' P') (hm : ∀ z ∈ rfA, (z.1, z.2.1, z.2.2, a z.1) ∈ rs) (hb : eK E b = 7) (hI : ∀ k, I b k = if k = 4 ∨ k = 21 then -1 else 0) : RfL E' P' b a ∧ RW I' b a [] (fun _ => 0) X nb0 S [] := by
  obtain ⟨a1, a2, a3, a4, a5, a6, a7⟩ := id h
  have eb : I' b = I b := (a4 b a2).2.2.1
  have z0 : ∀ k, k ∈ rfK → ∀ j, I' (a k) j = zv7 k j := fun k hk j => by
    have f : ∀ k, k ∈ rfK → ∃ z ∈ rfA, z.1 = k := by decide
    obtain ⟨z, hz, rfl⟩ := f k hk
    exact (a6 _ (hm z hz)).2.2.2.2.1 j
  refine ⟨⟨h.jk hb, fun z hz => ?_, fun y hy z hz e => a7 _ (hm y hy) _ (hm z hz) e⟩, ?_⟩
  · obtain ⟨g1, g2, g3, g4, g5⟩ := a6 _ (hm z hz)
    exact ⟨g4, by rw [a3]; exact List.mem_append_right _ (List.mem_map.mpr ⟨_, hm z hz, rfl⟩), g2, g3⟩
  · unfold RW
    rw [eb, hI, hI, hI, hI, hI, hI, z0 17 (by decide), z0 17 (by decide)]
    refine ⟨⟨by decide, fun k hk => absurd hk (Nat.not_lt_zero k)⟩, fun t ht => ⟨by rw [z0 5 (by decide)]; rfl, fun z => absurd rfl z⟩, ⟨by decide, by decide, by decide, by decide, by decide, by decide⟩, fun z => absurd rfl z, by decide, fun k hk => absurd hk (Nat.not_lt_zero k)⟩
end JSt7
