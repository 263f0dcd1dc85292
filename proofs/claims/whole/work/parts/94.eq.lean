section JEq
/-- the class's OUT (its row, its mark) and the reference's -/
def OE (w : List Int × Int) (r : Option (List Int)) : Prop := (∃ l, r = some l ∧ w = (l.map jB, 0) ∧ l.length ≤ 2000) ∨ (r = none ∧ w.2 = 1 ∧ w.1.length ≤ 2000)
theorem oall_1 : ∀ (bs : List Int) (w : List Int × Int), w.2 = 1 → (oall w bs).2 = 1
  | [], w, h => h
  | b :: bs, w, h => by
    refine oall_1 bs (oput w b) ?_
    unfold oput
    split
    · exact h
    · rfl
theorem oall_ok : ∀ (bs l : List Int), l.length + bs.length ≤ 2000 → oall (l.map jB, 0) bs = ((l ++ bs).map jB, 0)
  | [], l, h => by rw [List.append_nil]; rfl
  | b :: bs, l, h => by
    have e : oput (l.map jB, 0) b = ((l ++ [b]).map jB, 0) := by
      simp only [List.length_cons] at h
      unfold oput
      rw [if_pos (by simp only [List.length_map]; omega), List.map_append]
      rfl
    show oall (oput (l.map jB, 0) b) bs = _
    rw [e, oall_ok bs (l ++ [b]) (by simp only [List.length_append, List.length_cons, List.length_nil] at *; omega), List.append_assoc]
    rfl
theorem oall_no : ∀ (bs l : List Int), l.length ≤ 2000 → 2000 < l.length + bs.length → (oall (l.map jB, 0) bs).2 = 1
  | [], l, h, h2 => absurd h2 (by simp only [List.length_nil]; omega)
  | b :: bs, l, h, h2 => by
    simp only [List.length_cons] at h2
    show (oall (oput (l.map jB, 0) b) bs).2 = 1
    by_cases q : l.length < 2000
    · have e : oput (l.map jB, 0) b = ((l ++ [b]).map jB, 0) := by
        unfold oput
        rw [if_pos (by simp only [List.length_map]; omega), List.map_append]
        rfl
      rw [e]
      exact oall_no bs (l ++ [b]) (by simp only [List.length_append, List.length_cons, List.length_nil]; omega) (by simp only [List.length_append, List.length_cons, List.length_nil]; omega)
    · refine oall_1 bs _ ?_
      unfold oput
      rw [if_neg (by simp only [List.length_map]; omega)]
theorem OE.len {w : List Int × Int} {r : Option (List Int)} (h : OE w r) : w.1.length ≤ 2000 := by
  rcases h with ⟨l, -, rfl, h⟩ | ⟨-, -, h⟩
  · simp only [List.length_map]; exact h
  · exact h
theorem OE.say {w : List Int × Int} {r : Option (List Int)} (h : OE w r) (bs : List Int) : OE (oall w bs) (sayQ r bs) := by
  have hl := oall_len bs h.len
  rcases h with ⟨l, rfl, rfl, h⟩ | ⟨rfl, h1, h⟩
  · simp only [sayQ, Option.bind_some]
    by_cases q : l.length + bs.length ≤ 2000
    · rw [if_pos q]
      exact Or.inl ⟨l ++ bs, rfl, oall_ok bs l q, by rw [List.length_append]; exact q⟩
    · rw [if_neg q]
      exact Or.inr ⟨rfl, oall_no bs l h (by omega), hl⟩
  · exact Or.inr ⟨rfl, oall_1 bs w h1, hl⟩
theorem lay_oe {tol dp : Nat → Int} {nm : Nat → List Int} {n : Nat} : ∀ (k i : Nat) (w : List Int × Int) (r : Option (List Int)), i + k = n → OE w r → OE (layW tol dp nm k i w) (sayQ r ((if 0 < i ∧ k ≠ 0 then gapB (tol (i - 1)) (dp i) else []) ++ lyR tol dp nm n k i))
  | 0, i, w, r, hi, h => by
    rw [if_neg (fun z => z.2 rfl)]
    exact h.say []
  | k + 1, i, w, r, hi, h => by
    have h1 : OE (if 0 < i then oall w (gapB (tol (i - 1)) (dp i)) else w) (sayQ r (if 0 < i ∧ k + 1 ≠ 0 then gapB (tol (i - 1)) (dp i) else [])) := by
      by_cases q : 0 < i
      · rw [if_pos q, if_pos ⟨q, by omega⟩]
        exact h.say _
      · rw [if_neg q, if_neg (fun z => q z.1)]
        exact h.say []
    have h2 := lay_oe (tol := tol) (dp := dp) (nm := nm) (n := n) k (i + 1) _ _ (by omega) (h1.say (nm i))
    rw [sayQ_app, sayQ_app] at h2
    rw [layW, lyR]
    have e : (if 0 < i + 1 ∧ k ≠ 0 then gapB (tol (i + 1 - 1)) (dp (i + 1)) else []) = (if i + 1 = n then [] else gapB (tol i) (dp (i + 1))) := by
      by_cases q : k = 0
      · rw [if_neg (fun z => z.2 q), if_pos (by omega)]
      · rw [if_pos ⟨by omega, q⟩, if_neg (by omega)]
        rfl
    rw [e] at h2
    exact h2
theorem layW_cg {tol tol' dp dp' : Nat → Int} {nm nm' : Nat → List Int} : ∀ (m i : Nat) (w : List Int × Int), (∀ j, j + 1 < i + m → tol j = tol' j) → (∀ j, j < i + m → dp j = dp' j ∧ nm j = nm' j) → layW tol dp nm m i w = layW tol' dp' nm' m i w
  | 0, i, w, _, _ => rfl
  | m + 1, i, w, h, h2 => by
    rw [layW, layW, layW_cg m (i + 1) _ (fun j hj => h j (by omega)) (fun j hj => h2 j (by omega)), (h2 i (by omega)).1, (h2 i (by omega)).2]
    by_cases hi0 : 0 < i
    · rw [if_pos hi0, if_pos hi0, h (i - 1) (by omega)]
    · rw [if_neg hi0, if_neg hi0]
variable {I : jI} {x : Nat} {q : Nat → Nat} {X : TX} {i : Nat}
theorem CT.tol {S : Nat → Nat → Int} {hb : Nat → Nat} (h : CT I x q X) (hS : ∀ k j, k < 16 → j < 6 → I (hb k) j = S k j) (hi : i + 1 < (xT X).length) : tolV I x q hb i = xTol S X i := by
  have hk := xKd_r X i
  have e := h.2.2.2 i hi
  unfold tolV xTol
  rw [h.tst hi, e.1, hS _ 0 (by omega) (by decide), hS _ 1 (by omega) (by decide), hS _ 2 (by omega) (by decide), hS _ 3 (by omega) (by decide), hS _ 4 (by omega) (by decide), hS _ 5 (by omega) (by decide)]
theorem CT.n11 (h : CT I x q X) : (I x 11).toNat = (xT X).length := by rw [h.1.2.2.1]; exact Int.toNat_natCast _
theorem ct_lay {S : Nat → Nat → Int} {hb : Nat → Nat} (h : CT I x q X) (hW : WX X) (hS : ∀ k j, k < 16 → j < 6 → I (hb k) j = S k j) : OE (layW (tolV I x q hb) (I (q 4)) (tNm I q) (I x 11).toNat 0 ([], 0)) (sayQ (some []) (lyR (xTol S X) (xDp X) (xNm X) (xT X).length (xT X).length 0)) := by
  rw [h.n11, layW_cg (tol' := xTol S X) (dp' := xDp X) (nm' := xNm X) _ 0 _ (fun j hj => h.tol hS (by omega)) (fun j hj => ⟨(h.2.2.1 j (by omega)).2.2.2.1, h.nm hW (by omega)⟩)]
  have k := lay_oe (tol := xTol S X) (dp := xDp X) (nm := xNm X) (n := (xT X).length) (xT X).length 0 ([], 0) (some []) (by omega) (Or.inl ⟨[], rfl, rfl, by decide⟩)
  rw [if_neg (fun z => absurd z.1 (by decide))] at k
  exact k
theorem gapB_asc {c dp b : Int} (h : b ∈ gapB c dp) : 0 ≤ b ∧ b ≤ 127 := by
  unfold gapB at h
  split at h
  · have := List.mem_singleton.mp h; omega
  · split at h
    · rcases List.mem_cons.mp h with z | z
      · omega
      · have := List.eq_of_mem_replicate z; omega
    · exact absurd h (List.not_mem_nil)
theorem lyR_asc (hW : WX X) {tol dp : Nat → Int} {n : Nat} (hn : n = (xT X).length) : ∀ (k i : Nat), i + k = n → ∀ b ∈ lyR tol dp (xNm X) n k i, 0 ≤ b ∧ b ≤ 127
  | 0, i, _, b, hb => absurd hb (List.not_mem_nil)
  | k + 1, i, hi, b, hb => by
    rw [lyR] at hb
    rcases List.mem_append.mp hb with z | z
    · exact hW.asc (by omega) b z
    · rcases List.mem_append.mp z with z | z
      · split at z
        · exact absurd z (List.not_mem_nil)
        · exact gapB_asc z
      · exact lyR_asc hW hn k (i + 1) (by omega) b z
theorem sayQ_asc {bs l : List Int} (h : sayQ (some []) bs = some l) : l = bs := by
  simp only [sayQ, Option.bind_some] at h
  split at h
  · simpa using h.symm
  · cases h
end JEq
