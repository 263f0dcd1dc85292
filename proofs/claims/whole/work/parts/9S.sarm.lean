section JSrm
variable {E E0 E' : jE} {I I0 I1 I' : jI} {P P0 P' : jP} {h n : Nat} {g kd ln : Nat → Nat} {pt : Nat → Nat → Option Nat} {ph : Nat → Option Nat} {ih : Nat → Int} {iv : Nat → Nat → Int}
/-- the constructor of the object i0 has made its rows -/
theorem SA.rm {m i0 : Nat} {ih0 : Nat → Int} {rk rl q : Nat → Nat} (hS : SA E0 I0 P0 h g n kd ln pt ph ih iv E I P) (hi : i0 < n) (hR : RM (fun _ _ => 0) E I1 P (g i0) ((List.range m).map (fun k => (k, rk k, rl k, q k))) E' I' P') (hI : ∀ a, a ≠ g i0 → I1 a = I a) (hI0 : ∀ k, I1 (g i0) k = ih0 k) :
    SA E0 I0 P0 h (fun i => if i < n then g i else q (i - n)) (n + m) (fun i => if i < n then kd i else rk (i - n)) (fun i => if i < n then ln i else rl (i - n)) (fun i k => if i = i0 then (if k < m then some (n + k) else pt i0 k) else if i < n then pt i k else none) ph ih (fun i k => if i = i0 then ih0 k else if i < n then iv i k else 0) E' I' P' := by
  have hg := fun i hi => hS.hh (i := i) hi
  obtain ⟨a1, a2, a3, a4, a5, a6, a7, a8, a9, a10, a11⟩ := hS
  obtain ⟨b1, b2, b3, b4, b5, b6, b7⟩ := hR
  have hmem : ∀ k, k < m → (k, rk k, rl k, q k) ∈ (List.range m).map (fun k => (k, rk k, rl k, q k)) := fun k hk => List.mem_map.mpr ⟨k, List.mem_range.mpr hk, rfl⟩
  have hq : ∀ k, k < m → q k ∉ eL E ∧ eK E' (q k) = rk k ∧ eN E' (q k) = rl k ∧ P' (g i0) k = some (q k) ∧ (∀ j, I' (q k) j = 0) ∧ ∀ j, P' (q k) j = none := fun k hk => b6 _ (hmem k hk)
  have hin : ∀ a, a ∈ eL E0 → a ∈ eL E := fun a ha => by rw [a3]; exact List.mem_append_left _ ha
  have hh : h ≠ g i0 := Ne.symm (hg i0 hi).1
  have mg : ∀ o : Option Nat, (∀ j, o = some j → j < n) → o.map (fun i => if i < n then g i else q (i - n)) = o.map g := fun o ho => by
    cases o with
    | none => rfl
    | some j =>
      have := ho j rfl
      simp [this]
  refine ⟨a1.tr b1, a2, ?_, fun i hi' => ?_, fun i j hi' hj' e => ?_, fun a ha => ?_, fun i hi' => ?_, fun i hi' k => ?_, fun k => ?_, fun k => ?_, fun i hi' hk k => ?_⟩
  · rw [b3, a3, List.append_assoc, List.range_add, List.map_append]
    congr 1
    congr 1
    · exact (List.map_congr_left (fun i hi' => by rw [if_pos (List.mem_range.mp hi')])).symm
    · rw [List.map_map, List.map_map]
      refine List.map_congr_left (fun k _ => ?_)
      show q k = if n + k < n then g (n + k) else q (n + k - n)
      rw [if_neg (by omega), Nat.add_sub_cancel_left]
  · by_cases z : i < n
    · simp only [if_pos z]; exact a4 i z
    · simp only [if_neg z]; exact fun y => (hq (i - n) (by omega)).1 (hin _ y)
  · by_cases z : i < n <;> by_cases y : j < n
    · simp only [if_pos z, if_pos y] at e; exact a5 i j z y e
    · simp only [if_pos z, if_neg y] at e
      exact absurd (hg i z).2 (by rw [e]; exact (hq (j - n) (by omega)).1)
    · simp only [if_neg z, if_pos y] at e
      exact absurd (hg j y).2 (by rw [← e]; exact (hq (i - n) (by omega)).1)
    · simp only [if_neg z, if_neg y] at e
      have := b7 _ (hmem (i - n) (by omega)) _ (hmem (j - n) (by omega)) e
      have e2 : i - n = j - n := this
      omega
  · obtain ⟨g1, g2, g3⟩ := a6 a ha
    obtain ⟨f1, f2, f3, f4⟩ := b4 a (hin a ha)
    have hai : a ≠ g i0 := fun z => a4 i0 hi (by rw [← z]; exact ha)
    exact ⟨f1.trans g1, f2.trans g2, fun hah => ⟨f3.trans ((hI a hai).trans (g3 hah).1), (f4 hai).trans (g3 hah).2⟩⟩
  · by_cases z : i < n
    · simp only [if_pos z]
      obtain ⟨f1, f2, -⟩ := b4 (g i) (hg i z).2
      exact ⟨f1.trans (a7 i z).1, f2.trans (a7 i z).2⟩
    · simp only [if_neg z]
      exact ⟨(hq (i - n) (by omega)).2.1, (hq (i - n) (by omega)).2.2.1⟩
  · by_cases z : i < n
    · by_cases e : i = i0
      · subst e
        simp only [if_pos z, if_true]
        by_cases hk : k < m
        · rw [if_pos hk]
          refine ⟨?_, fun j hj => by cases hj; omega⟩
          rw [(hq k hk).2.2.2.1]
          simp [show ¬ n + k < n by omega]
        · rw [if_neg hk, mg _ (a8 i z k).2, b5 k (fun w hw => by
            obtain ⟨k', hk', rfl⟩ := List.mem_map.mp hw
            have := List.mem_range.mp hk'
            show k' ≠ k
            omega)]
          exact ⟨(a8 i z k).1, fun j hj => by have := (a8 i z k).2 j hj; omega⟩
      · simp only [if_pos z, if_neg e]
        rw [mg _ (a8 i z k).2, (b4 (g i) (hg i z).2).2.2.2 (fun w => e (a5 i i0 z hi w))]
        exact ⟨(a8 i z k).1, fun j hj => by have := (a8 i z k).2 j hj; omega⟩
    · have e : i ≠ i0 := by omega
      simp only [if_neg z, if_neg e]
      exact ⟨(hq (i - n) (by omega)).2.2.2.2.2 k, fun j hj => by cases hj⟩
  · rw [mg _ (a9 k).2, (b4 h (hin h a2)).2.2.2 hh]
    exact ⟨(a9 k).1, fun j hj => by have := (a9 k).2 j hj; omega⟩
  · rw [(b4 h (hin h a2)).2.2.1, hI h hh]
    exact a10 k
  · by_cases z : i < n
    · simp only [if_pos z] at hk ⊢
      rw [(b4 (g i) (hg i z).2).2.2.1]
      by_cases e : i = i0
      · subst e
        rw [if_pos rfl]
        exact hI0 k
      · rw [if_neg e, hI _ (fun w => e (a5 i i0 z hi w))]
        exact a11 i z hk k
    · have e : i ≠ i0 := by omega
      simp only [if_neg z, if_neg e]
      exact (hq (i - n) (by omega)).2.2.2.2.1 k
end JSrm
