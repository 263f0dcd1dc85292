section JSA
variable {E E0 E' : jE} {I I0 I' : jI} {P P0 P' : jP} {h n : Nat} {g kd ln : Nat → Nat} {pt : Nat → Nat → Option Nat} {ph : Nat → Option Nat} {ih : Nat → Int} {iv : Nat → Nat → Int}
/-- the class's constructor so far: n objects g were made, of these kinds and lengths; pt: which object a place of an object holds; ph, ih: the fields of h; iv: the numbers in the objects that are no habits -/
def SA (E0 : jE) (I0 : jI) (P0 : jP) (h : Nat) (g : Nat → Nat) (n : Nat) (kd ln : Nat → Nat) (pt : Nat → Nat → Option Nat) (ph : Nat → Option Nat) (ih : Nat → Int) (iv : Nat → Nat → Int) (E : jE) (I : jI) (P : jP) : Prop :=
  eSame E0 E ∧ h ∈ eL E0 ∧ eL E = eL E0 ++ (List.range n).map g ∧ (∀ i, i < n → g i ∉ eL E0) ∧ (∀ i j, i < n → j < n → g i = g j → i = j) ∧ (∀ a, a ∈ eL E0 → eK E a = eK E0 a ∧ eN E a = eN E0 a ∧ (a ≠ h → I a = I0 a ∧ P a = P0 a)) ∧ (∀ i, i < n → eK E (g i) = kd i ∧ eN E (g i) = ln i) ∧ (∀ i, i < n → ∀ k, P (g i) k = (pt i k).map g ∧ ∀ j, pt i k = some j → j < n) ∧ (∀ k, P h k = (ph k).map g ∧ ∀ j, ph k = some j → j < n) ∧ (∀ k, I h k = ih k) ∧ ∀ i, i < n → kd i ≠ 0 → ∀ k, I (g i) k = iv i k
theorem map_up {g : Nat → Nat} {n r : Nat} {o : Option Nat} (ho : ∀ j, o = some j → j < n) : o.map (va_up g n r) = o.map g := by
  cases o with
  | none => rfl
  | some j =>
    have := ho j rfl
    show some (va_up g n r j) = some (g j)
    rw [va_up_ne _ _ (by omega)]
theorem SA.hh (hS : SA E0 I0 P0 h g n kd ln pt ph ih iv E I P) {i : Nat} (hi : i < n) : g i ≠ h ∧ g i ∈ eL E := ⟨fun e => hS.2.2.2.1 i hi (by rw [e]; exact hS.2.1), by rw [hS.2.2.1]; exact List.mem_append_right _ (List.mem_map.mpr ⟨i, List.mem_range.mpr hi, rfl⟩)⟩
/-- one object more -/
theorem SA.add {r k l : Nat} (hS : SA E0 I0 P0 h g n kd ln pt ph ih iv E I P) (hr : r ∉ eL E) : SA E0 I0 P0 h (va_up g n r) (n + 1) (va_up kd n k) (va_up ln n l) (va_up pt n (fun _ => none)) ph ih (va_up iv n (fun _ => 0)) (eAdd E r k l) (zI I r) (zP P r) := by
  have hg := fun i hi => (hS.hh (i := i) hi).2
  obtain ⟨a1, a2, a3, a4, a5, a6, a7, a8, a9, a10, a11⟩ := hS
  have hin : ∀ a, a ∈ eL E0 → a ∈ eL E := fun a ha => by rw [a3]; exact List.mem_append_left _ ha
  have hr0 : r ∉ eL E0 := fun z => hr (hin r z)
  have hhr : h ≠ r := fun z => hr0 (by rw [← z]; exact a2)
  have hgr : ∀ i, i < n → g i ≠ r := fun i hi z => hr (by rw [← z]; exact hg i hi)
  have gu : ∀ i, i < n → va_up g n r i = g i := fun i hi => va_up_ne _ _ (by omega)
  have gn : va_up g n r n = r := va_up_self _ _ _
  have ek : ∀ a, a ≠ r → eK (eAdd E r k l) a = eK E a := fun a ha => va_up_ne _ _ ha
  have en : ∀ a, a ≠ r → eN (eAdd E r k l) a = eN E a := fun a ha => va_up_ne _ _ ha
  refine ⟨a1.tr eSame.add, a2, ?_, fun i hi => ?_, fun i j hi hj e => ?_, fun a ha => ?_, fun i hi => ?_, fun i hi k' => ?_, fun k' => ?_, fun k' => ?_, fun i hi hk k' => ?_⟩
  · show eL E ++ [r] = _
    rw [a3, List.range_succ, List.map_append, List.append_assoc]
    congr 1
    have e1 : (List.range n).map (va_up g n r) = (List.range n).map g := List.map_congr_left (fun i hi => gu i (List.mem_range.mp hi))
    rw [e1]
    simp [gn]
  · by_cases e : i = n
    · rw [e, gn]; exact hr0
    · rw [gu i (by omega)]; exact a4 i (by omega)
  · by_cases ei : i = n <;> by_cases ej : j = n
    · omega
    · rw [ei, gn, gu j (by omega)] at e
      exact absurd e.symm (hgr j (by omega))
    · rw [ej, gn, gu i (by omega)] at e
      exact absurd e (hgr i (by omega))
    · rw [gu i (by omega), gu j (by omega)] at e
      exact a5 i j (by omega) (by omega) e
  · have har : a ≠ r := fun z => hr0 (by rw [← z]; exact ha)
    obtain ⟨g1, g2, g3⟩ := a6 a ha
    exact ⟨(ek a har).trans g1, (en a har).trans g2, fun hah => ⟨(zI_n har).trans (g3 hah).1, (zP_n har).trans (g3 hah).2⟩⟩
  · by_cases e : i = n
    · rw [e, gn, va_up_self, va_up_self]
      exact ⟨va_up_self _ _ _, va_up_self _ _ _⟩
    · rw [gu i (by omega), va_up_ne _ _ e, va_up_ne _ _ e, ek _ (hgr i (by omega)), en _ (hgr i (by omega))]
      exact a7 i (by omega)
  · by_cases e : i = n
    · rw [e, gn, va_up_self]
      exact ⟨zP_s, fun j hj => by cases hj⟩
    · rw [gu i (by omega), va_up_ne _ _ e, zP_n (hgr i (by omega)), map_up (a8 i (by omega) k').2]
      exact ⟨(a8 i (by omega) k').1, fun j hj => Nat.lt_succ_of_lt ((a8 i (by omega) k').2 j hj)⟩
  · rw [zP_n hhr, map_up (a9 k').2]
    exact ⟨(a9 k').1, fun j hj => Nat.lt_succ_of_lt ((a9 k').2 j hj)⟩
  · rw [zI_n hhr]; exact a10 k'
  · by_cases e : i = n
    · rw [e, gn, va_up_self]; exact zI_s
    · rw [gu i (by omega), va_up_ne _ _ e, zI_n (hgr i (by omega))]
      exact a11 i (by omega) (by rw [va_up_ne _ _ e] at hk; exact hk) k'
/-- an object is put into a field of h -/
theorem SA.puth {k j : Nat} (hS : SA E0 I0 P0 h g n kd ln pt ph ih iv E I P) (hj : j < n) : SA E0 I0 P0 h g n kd ln pt (va_up ph k (some j)) ih iv E I (jputP P h k (some (g j))) := by
  have hg := fun i hi => (hS.hh (i := i) hi).1
  obtain ⟨a1, a2, a3, a4, a5, a6, a7, a8, a9, a10, a11⟩ := hS
  refine ⟨a1, a2, a3, a4, a5, fun a ha => ⟨(a6 a ha).1, (a6 a ha).2.1, fun hah => ⟨((a6 a ha).2.2 hah).1, ?_⟩⟩, a7, fun i hi k' => ?_, fun k' => ?_, a10, a11⟩
  · rw [← ((a6 a ha).2.2 hah).2]
    funext j'
    simp [jputP, hah]
  · have : jputP P h k (some (g j)) (g i) k' = P (g i) k' := by simp [jputP, hg i hi]
    rw [this]
    exact a8 i hi k'
  · by_cases e : k' = k
    · subst e
      rw [va_up_self]
      exact ⟨by simp [jputP], fun j' h' => by cases h'; exact hj⟩
    · rw [va_up_ne _ _ e]
      have : jputP P h k (some (g j)) h k' = P h k' := by simp [jputP, e]
      rw [this]
      exact a9 k'
/-- a number is put into a field of h -/
theorem SA.puti {k : Nat} {v : Int} (hS : SA E0 I0 P0 h g n kd ln pt ph ih iv E I P) : SA E0 I0 P0 h g n kd ln pt ph (va_up ih k v) iv E (jput I h k v) P := by
  have hg := fun i hi => (hS.hh (i := i) hi).1
  obtain ⟨a1, a2, a3, a4, a5, a6, a7, a8, a9, a10, a11⟩ := hS
  refine ⟨a1, a2, a3, a4, a5, fun a ha => ⟨(a6 a ha).1, (a6 a ha).2.1, fun hah => ⟨?_, ((a6 a ha).2.2 hah).2⟩⟩, a7, a8, a9, fun k' => ?_, fun i hi hk k' => by rw [jput_a _ (hg i hi)]; exact a11 i hi hk k'⟩
  · rw [← ((a6 a ha).2.2 hah).1]
    funext j'
    exact jput_a _ hah
  · by_cases e : k' = k
    · subst e
      rw [va_up_self, jput_s]
    · rw [va_up_ne _ _ e, jput_k _ e]
      exact a10 k'
/-- an object is put into a place of an object -/
theorem SA.putp {i k j : Nat} (hS : SA E0 I0 P0 h g n kd ln pt ph ih iv E I P) (hi : i < n) (hj : j < n) : SA E0 I0 P0 h g n kd ln (va_up pt i (va_up (pt i) k (some j))) ph ih iv E I (jputP P (g i) k (some (g j))) := by
  have hg := fun i hi => (hS.hh (i := i) hi).1
  obtain ⟨a1, a2, a3, a4, a5, a6, a7, a8, a9, a10, a11⟩ := hS
  refine ⟨a1, a2, a3, a4, a5, fun a ha => ⟨(a6 a ha).1, (a6 a ha).2.1, fun hah => ⟨((a6 a ha).2.2 hah).1, ?_⟩⟩, a7, fun i' hi' k' => ?_, fun k' => ?_, a10, a11⟩
  · rw [← ((a6 a ha).2.2 hah).2]
    have : a ≠ g i := fun z => a4 i hi (by rw [← z]; exact ha)
    funext j'
    simp [jputP, this]
  · by_cases e : i' = i
    · subst e
      rw [va_up_self]
      by_cases ek : k' = k
      · subst ek
        rw [va_up_self]
        exact ⟨by simp [jputP], fun j' h' => by cases h'; exact hj⟩
      · rw [va_up_ne _ _ ek]
        have : jputP P (g i') k (some (g j)) (g i') k' = P (g i') k' := by simp [jputP, ek]
        rw [this]
        exact a8 i' hi k'
    · rw [va_up_ne _ _ e]
      have hne : g i' ≠ g i := fun z => e (a5 i' i hi' hi z)
      have : jputP P (g i) k (some (g j)) (g i') k' = P (g i') k' := by simp [jputP, hne]
      rw [this]
      exact a8 i' hi' k'
  · have : jputP P (g i) k (some (g j)) h k' = P h k' := by simp [jputP, Ne.symm (hg i hi)]
    rw [this]
    exact a9 k'
end JSA
