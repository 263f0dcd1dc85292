section JEq2
variable {I : jI} {x : Nat} {q : Nat → Nat} {X : TX} {i : Nat}
/-! what is made is plain -/
def asc (l : List Int) : Prop := ∀ b ∈ l, 0 ≤ b ∧ b ≤ 127
theorem asc.app {l k : List Int} (h : asc l) (g : asc k) : asc (l ++ k) := fun b hb => (List.mem_append.mp hb).elim (h b) (g b)
theorem mput_asc {w : List Int × Int} {b : Int} (h : asc w.1) (hb : 0 ≤ b ∧ b ≤ 127) : asc (mput w b).1 := by
  unfold mput
  split
  · refine asc.app h (fun c hc => ?_)
    have := List.mem_singleton.mp hc
    rw [this, jB_id (by omega)]
    exact hb
  · exact h
theorem spart_asc {w : List Int × Int} {b mk : Int} (h : asc w.1) (hb : 0 ≤ b ∧ b ≤ 127) : asc (spart w b mk).1 := by
  have h1 : 0 ≤ smallOf b ∧ smallOf b ≤ 127 := by unfold smallOf; split <;> omega
  have h2 : 0 ≤ greatOf (smallOf b) ∧ greatOf (smallOf b) ≤ 127 := by unfold greatOf; split <;> omega
  have h3 : 0 ≤ greatOf b ∧ greatOf b ≤ 127 := by unfold greatOf; split <;> omega
  unfold spart
  (repeat' split) <;> first | exact mput_asc h h1 | exact mput_asc h h2 | exact mput_asc h h3 | exact mput_asc (mput_asc h (by decide)) h1 | exact mput_asc (mput_asc h (by decide)) h2 | exact mput_asc h hb
theorem mrun_asc {mk : Int} : ∀ (bs : List Int) (p : (List Int × Int) × Int), asc bs → asc p.1.1 → asc (mrun mk p bs).1.1
  | [], p, _, h => h
  | b :: bs, p, hb, h => by
    refine mrun_asc bs (mstep mk p b) (fun c hc => hb c (List.mem_cons_of_mem _ hc)) ?_
    have h0 := hb b (List.mem_cons_self)
    unfold mstep
    (repeat' split)
    · exact h
    · exact spart_asc h h0
    · exact mput_asc h h0
theorem made_asc {mk : Int} {bs : List Int} (h : asc bs) : asc (made mk bs).1 := mrun_asc bs _ h (fun b hb => absurd hb (List.not_mem_nil))
theorem asc_map {l : List Int} (h : asc l) : l.map jB = l := by
  refine (List.map_congr_left (g := id) (fun b hb => ?_)).trans (List.map_id l)
  have := h b hb
  exact jB_id (by omega)
theorem jB_bR {u v : Int} (h : bR u v) : jB u = jB v := by
  have h1 : bR (jB v) v := bR_jB (by unfold bR at h; omega)
  have : jB v = u := by unfold bR at h h1; omega
  rw [this]
  exact jB_id (by unfold bR at h; omega)
theorem rowF_bR {f g : Nat → Int} : ∀ (k i : Nat), (∀ j, i ≤ j → j < i + k → bR (f j) (g j)) → (rowF f i k).map jB = (rowF g i k).map jB
  | 0, i, _ => rfl
  | k + 1, i, h => by
    simp only [rowF, List.map_cons]
    rw [jB_bR (h i (by omega) (by omega)), rowF_bR k (i + 1) (fun j h1 h2 => h j (by omega) (by omega))]
theorem metB_cq {sg sg' : Nat → Int} {md md' nm nm' : Nat → List Int} {tk : Nat} (ht : md tk = md' tk ∧ nm tk = nm' tk) : ∀ (k i : Nat), (∀ j, j < i + k → sg j = sg' j ∧ md j = md' j ∧ nm j = nm' j) → metB sg md nm tk k i = metB sg' md' nm' tk k i
  | 0, i, _ => rfl
  | k + 1, i, h => by
    have e := h i (by omega)
    rw [metB, metB, e.1, e.2.1, e.2.2, ht.1, ht.2, metB_cq ht k (i + 1) (fun j hj => h j (by omega))]
theorem ct_tw {mk : Int} (h : CT I x q X) (hW : WX X) : ∀ (k i dn : Nat) (l : List Int), i + k = (xT X).length → dn ≤ xN X → (∀ j, i ≤ j → j < (xT X).length → (dn : Int) ≤ xSt X j) → turW (I (q 0)) (I (q 3)) (I (q 1)) (I (q 2)) (tNm I q) mk k i (dn : Int) (l.map jB) = if okAll X mk k i = true then some (((uW X mk k i dn l).1 : Int), (uW X mk k i dn l).2.map jB) else none
  | 0, i, dn, l, hi, h1, h2 => by simp [turW, uW, okAll]
  | k + 1, i, dn, l, hi, h1, h2 => by
    have e := h.2.2.1 i (by omega)
    have tk := (hW.tk (i := i) (by omega)).1
    have hd := h2 i (by omega) (by omega)
    have nm := fun j (hj : j < (xT X).length) => h.nm hW hj
    rw [turW, uW, okAll, e.2.2.1]
    by_cases q1 : xSg X i = 1
    · rw [if_pos q1, if_pos q1, if_pos q1]
      have em : metB (I (q 3)) (fun j => (made mk (tNm I q j)).1) (tNm I q) i i 0 = metB (xSg X) (fun j => (made mk (xNm X j)).1) (xNm X) i i 0 :=
        metB_cq ⟨by show (made mk (tNm I q i)).1 = (made mk (xNm X i)).1; rw [nm i (by omega)], nm i (by omega)⟩ i 0 (fun j hj => ⟨(h.2.2.1 j (by omega)).2.2.1, by show (made mk (tNm I q j)).1 = (made mk (xNm X j)).1; rw [nm j (by omega)], nm j (by omega)⟩)
      rw [em, nm i (by omega), e.1, e.2.1]
      have eo : okN X mk i = true ↔ (okA mk (xNm X i) = true ∧ metB (xSg X) (fun j => (made mk (xNm X j)).1) (xNm X) i i 0 = false) := by unfold okN; simp
      by_cases q2 : okN X mk i = true
      · have el : l.map jB ++ (rowF (I (q 0)) ((dn : Int)).toNat (xSt X i - (dn : Int)).toNat).map jB ++ (made mk (xNm X i)).1 = (l ++ rowF (xF X) dn ((xSt X i).toNat - dn) ++ (made mk (xNm X i)).1).map jB := by
          rw [List.map_append, List.map_append, asc_map (made_asc (hW.asc (by omega))), Int.toNat_natCast, show (xSt X i - (dn : Int)).toNat = (xSt X i).toNat - dn by omega, rowF_bR (g := xF X) _ _ (fun j g1 g2 => h.2.1 j (by omega))]
        have ee : xEn X i = (((xEn X i).toNat : Nat) : Int) := by omega
        rw [if_pos (eo.mp q2), q2, Bool.true_and, el]
        have ih := ct_tw (mk := mk) h hW k (i + 1) (xEn X i).toNat (l ++ rowF (xF X) dn ((xSt X i).toNat - dn) ++ (made mk (xNm X i)).1) (by omega) (by omega) (fun j h3 h4 => by have := hW.mono j i (by omega) h4; omega)
        rw [← ee] at ih
        exact ih
      · rw [if_neg (fun z => q2 (eo.mpr z)), if_neg (by simp [q2])]
    · rw [if_neg q1, if_neg q1, if_neg q1]
      exact ct_tw h hW k (i + 1) dn l (by omega) h1 (fun j h3 h4 => h2 j (by omega) h4)
theorem ct_tur {mk : Int} (h : CT I x q X) (hW : WX X) : turR (I (q 0)) (I (q 3)) (I (q 1)) (I (q 2)) (tNm I q) mk (I x 9) (I x 11).toNat = (tuX X mk).map (List.map jB) := by
  have k := ct_tw (mk := mk) h hW (xT X).length 0 0 [] (by omega) (by omega) (fun j h1 h2 => by have := (hW.tk h2).1; omega)
  have hl := (uW_len hW (mk := mk) (xT X).length 0 0 [] (by omega) (by omega) (fun j h1 h2 => by have := (hW.tk h2).1; omega)).1
  have k' : turW (I (q 0)) (I (q 3)) (I (q 1)) (I (q 2)) (tNm I q) mk (xT X).length 0 0 [] = if okAll X mk (xT X).length 0 = true then some (((uW X mk (xT X).length 0 0 []).1 : Int), (uW X mk (xT X).length 0 0 []).2.map jB) else none := k
  unfold turR tuX
  rw [h.n11, h.1.1, k']
  by_cases q1 : okAll X mk (xT X).length 0 = true
  · rw [if_pos q1]
    have el : (uW X mk (xT X).length 0 0 []).2.map jB ++ (rowF (I (q 0)) (((uW X mk (xT X).length 0 0 []).1 : Int)).toNat ((xN X : Int) - ((uW X mk (xT X).length 0 0 []).1 : Int)).toNat).map jB = (uL X mk).map jB := by
      unfold uL
      rw [List.map_append, Int.toNat_natCast, show ((xN X : Int) - ((uW X mk (xT X).length 0 0 []).1 : Int)).toNat = xN X - (uW X mk (xT X).length 0 0 []).1 by omega, rowF_bR (g := xF X) _ _ (fun j g1 g2 => h.2.1 j (by omega))]
    rw [Option.bind_some]
    dsimp only
    rw [el, List.length_map]
    by_cases q2 : (uL X mk).length ≤ 800
    · rw [if_neg (by omega), if_pos ⟨q1, q2⟩]
      rfl
    · rw [if_pos (by omega), if_neg (fun z => q2 z.2)]
      rfl
  · rw [if_neg q1, if_neg (fun z => q1 z.1)]
    rfl
def byt (l : List Int) : Prop := ∀ b ∈ l, 0 ≤ b ∧ b ≤ 255
theorem byt.app {l k : List Int} (h : byt l) (g : byt k) : byt (l ++ k) := fun b hb => (List.mem_append.mp hb).elim (h b) (g b)
theorem asc.byt {l : List Int} (h : asc l) : byt l := fun b hb => by have := h b hb; omega
theorem rowF_byt (hW : WX X) {i k : Nat} (h : i + k ≤ xN X) : byt (rowF (xF X) i k) := by
  intro b hb
  obtain ⟨j, h1, h2, rfl⟩ := rowF_mem _ _ hb
  exact hW.2.1 j (by omega)
theorem uW_byt (hW : WX X) {mk : Int} : ∀ (k i dn : Nat) (l : List Int), i + k = (xT X).length → byt l → byt (uW X mk k i dn l).2
  | 0, i, dn, l, _, h => h
  | k + 1, i, dn, l, hi, h => by
    have tk := (hW.tk (i := i) (by omega)).1
    rw [uW]
    split
    · refine uW_byt hW k (i + 1) _ _ (by omega) ((h.app ?_).app (made_asc (hW.asc (by omega))).byt)
      by_cases q : dn ≤ (xSt X i).toNat
      · exact rowF_byt hW (by omega)
      · rw [show (xSt X i).toNat - dn = 0 by omega]
        exact fun b hb => absurd hb (List.not_mem_nil)
    · exact uW_byt hW k (i + 1) _ _ (by omega) h
theorem tuX_byt (hW : WX X) {mk : Int} {l : List Int} (h : tuX X mk = some l) : byt l ∧ l.length ≤ 800 := by
  have hl := (uW_len hW (mk := mk) (xT X).length 0 0 [] (by omega) (by omega) (fun j h1 h2 => by have := (hW.tk h2).1; omega)).1
  unfold tuX at h
  split at h
  · rename_i z
    obtain rfl := Option.some.inj h
    refine ⟨?_, z.2⟩
    exact (uW_byt hW _ 0 0 [] (by omega) (fun b hb => absurd hb (List.not_mem_nil))).app (rowF_byt hW (by omega))
  · cases h
end JEq2
section JEq3
variable {I : jI} {x : Nat → Nat} {q : Nat → Nat → Nat} {X : Nat → TX} {th : Nat → Int}
theorem seM_eq {kd ch : Int} (h : ∀ t, t < 12 → I (x t) 8 = th t ∧ (th t ≠ 0 → CT I (x t) (q t) (X t))) : ∀ (k t : Nat), t + k = 12 → seM I x q kd ch t k = seX th X kd ch t k
  | 0, t, _ => rfl
  | k + 1, t, ht => by
    have e := h t (by omega)
    rw [seM, seX, e.1, seM_eq h k (t + 1) (by omega)]
    by_cases q1 : th t ≠ 0
    · rw [if_pos q1, if_pos q1]
      have c := e.2 q1
      rw [c.gaps, cntG_cg _ 0 (fun j hj => c.2.2.2 j (by omega))]
    · rw [if_neg q1, if_neg q1]
theorem hsM_eq (h : ∀ t, t < 12 → I (x t) 8 = th t ∧ (th t ≠ 0 → CT I (x t) (q t) (X t) ∧ WX (X t))) : ∀ (k t : Nat), t + k = 12 → hsM I x q 0 t k - hsM I x q 1 t k = hsX th X t k
  | 0, t, _ => rfl
  | k + 1, t, ht => by
    have e := h t (by omega)
    have ih := hsM_eq h k (t + 1) (by omega)
    rw [hsM, hsM, hsX, e.1]
    by_cases q1 : th t ≠ 0
    · rw [if_pos q1, if_pos q1, if_pos q1]
      obtain ⟨c, w⟩ := e.2 q1
      have e0 : ∀ mk, cntMd (tNm I (q t)) (I (q t 3)) mk 0 (I (x t) 11).toNat = cntMd (xNm (X t)) (xSg (X t)) mk 0 (xT (X t)).length := fun mk => by
        rw [c.n11]
        exact cntMd_cg _ 0 (fun j hj => ⟨c.nm w (by omega), (c.2.2.1 j (by omega)).2.2.1⟩)
      rw [e0, e0, hdX]
      omega
    · rw [if_neg q1, if_neg q1, if_neg q1]
      omega
end JEq3
