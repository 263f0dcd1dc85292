section JFC
theorem jT_mem {w : Cond} (h : w ∈ lw_tbl) (hg : goodWord w = true) : w ∈ jT := List.mem_filter.mpr ⟨h, hg⟩
theorem jT_good {ws : List Cond} (h : ∀ w ∈ ws, w ∈ jT) : GoodIn jT ws := fun w hw => ⟨h w hw, good_of_word (List.mem_filter.mp (h w hw)).2⟩
theorem jcl_in {ci : Nat} {q : vw_C} (h : vwCl[ci]? = some q) : ∀ w ∈ u_ws q.1 q.2.1 q.2.2, w ∈ jT := by
  match ci, h with
  | 0, h => cases h; exact fun w hw => jW0 w hw
  | 1, h => cases h; exact fun w hw => jW1 w hw
  | 2, h => cases h; exact fun w hw => jW2 w hw
  | 3, h => cases h; exact fun w hw => jW3 w hw
  | 4, h => cases h; exact fun w hw => jW4 w hw
  | 5, h => cases h; exact fun w hw => jW5 w hw
  | 6, h => cases h; exact fun w hw => jW6 w hw
  | 7, h => cases h; exact fun w hw => jW7 w hw
  | k + 8, h => simp [vwCl] at h
theorem jcl_ty {ci : Nat} {q : vw_C} (h : vwCl[ci]? = some q) : ∀ k, k < q.2.2 → parseFieldDescriptor (q.2.1 k).2.2.1 = some (jTy ci k) := by
  match ci, h with
  | 0, h => cases h; exact tyX0_ok
  | 1, h => cases h; exact tyX1_ok
  | 2, h => cases h; exact tyX2_ok
  | 3, h => cases h; exact tyX3_ok
  | 4, h => cases h; exact tyX4_ok
  | 5, h => cases h; exact tyX5_ok
  | 6, h => cases h; exact tyX6_ok
  | 7, h => cases h; exact tyX7_ok
  | k + 8, h => simp [vwCl] at h
theorem jcl_nm {ci : Nat} {q : vw_C} (h : vwCl[ci]? = some q) : ∀ a, a < q.2.2 → ∀ b, b < q.2.2 → a ≠ b → (q.2.1 a).2.1 ≠ (q.2.1 b).2.1 := by
  match ci, h with
  | 0, h => cases h; exact nmX0
  | 1, h => cases h; exact nmX1
  | 2, h => cases h; exact nmX2
  | 3, h => cases h; exact nmX3
  | 4, h => cases h; exact nmX4
  | 5, h => cases h; exact nmX5
  | 6, h => cases h; exact nmX6
  | 7, h => cases h; exact nmX7
  | k + 8, h => simp [vwCl] at h
theorem jcl_nf {ci : Nat} {q : vw_C} (h : vwCl[ci]? = some q) : q.2.2 = jNF ci ∧ ci < 8 := by
  match ci, h with
  | 0, h => cases h; exact ⟨rfl, by decide⟩
  | 1, h => cases h; exact ⟨rfl, by decide⟩
  | 2, h => cases h; exact ⟨rfl, by decide⟩
  | 3, h => cases h; exact ⟨rfl, by decide⟩
  | 4, h => cases h; exact ⟨rfl, by decide⟩
  | 5, h => cases h; exact ⟨rfl, by decide⟩
  | 6, h => cases h; exact ⟨rfl, by decide⟩
  | 7, h => cases h; exact ⟨rfl, by decide⟩
  | k + 8, h => simp [vwCl] at h
def jF (own : String) (idx ci k : Nat) : Prop := ∃ q : vw_C, vwCl[ci]? = some q ∧ k < q.2.2 ∧ (q.2.1 k).1 = q.1 ∧ (Cond.fieldLink own idx q.1 (q.2.1 k).2.1 (q.2.1 k).2.2.1 ∈ jT ∨ ∃ host, Cond.fieldLinkNest own idx q.1 (q.2.1 k).2.1 (q.2.1 k).2.2.1 host ∈ lw_tbl)
def jFw (own : String) (idx ci k : Nat) : Prop := jF own idx ci k ∧ ∀ q : vw_C, vwCl[ci]? = some q → (q.2.1 k).2.2.2 = false
def jK (E : jE) (ci a : Nat) : Prop := a ∈ eL E ∧ eK E a = ci
def jAr (E : jE) (kd a n : Nat) : Prop := a ∈ eL E ∧ eK E a = kd ∧ eN E a = n
theorem jCell_obj {E : jE} {I : jI} {P : jP} {ci a : Nat} (h : eK E a = ci) (h8 : ci < 8) : jCell E I P a = .inr (ci, jFs ci a I P) := by
  subst h
  simp only [jCell, if_pos h8]
theorem jCell_congr {E : jE} {I I' : jI} {P P' : jP} {a : Nat} (h1 : ∀ j, I a j = I' a j) (h2 : ∀ j, P a j = P' a j) : jCell E I P a = jCell E I' P' a := by
  have e1 : jFs (eK E a) a I P = jFs (eK E a) a I' P' := by
    unfold jFs
    apply List.map_congr_left
    intro k _
    simp only [jFv, h1, h2]
  simp only [jCell, e1, h1, h2]
theorem jFs_get {ci a k : Nat} {I : jI} {P : jP} (hk : k < jNF ci) : (jFs ci a I P)[k]? = some (jFv ci a I P k) := by
  simp [jFs, List.getElem?_map, List.getElem?_range hk]
theorem jFs_len {ci a : Nat} {I : jI} {P : jP} : (jFs ci a I P).length = jNF ci := by simp [jFs]
theorem jFs_put {ci a k : Nat} {I : jI} {P : jP} {v : Int} (hr : jIsR (jTy ci k) = false) : (jFs ci a I P).set k (.int (Int32.ofInt v)) = jFs ci a (jput I a k v) P := by
  apply List.ext_getElem?
  intro j
  by_cases hj : j < jNF ci
  · rw [jFs_get hj]
    by_cases hk : k = j
    · subst hk
      rw [List.getElem?_set_self (by rw [jFs_len]; exact hj)]
      simp [jFv, hr, jput]
    · rw [List.getElem?_set_ne hk, jFs_get hj]
      simp [jFv, jput, Ne.symm hk]
  · rw [List.getElem?_eq_none (by rw [List.length_set, jFs_len]; omega), List.getElem?_eq_none (by rw [jFs_len]; omega)]
theorem jFs_putP {ci a k : Nat} {I : jI} {P : jP} {v : Option Nat} (hr : jIsR (jTy ci k) = true) : (jFs ci a I P).set k (va_rf v) = jFs ci a I (jputP P a k v) := by
  apply List.ext_getElem?
  intro j
  by_cases hj : j < jNF ci
  · rw [jFs_get hj]
    by_cases hk : k = j
    · subst hk
      rw [List.getElem?_set_self (by rw [jFs_len]; exact hj)]
      simp [jFv, hr, jputP]
    · rw [List.getElem?_set_ne hk, jFs_get hj]
      simp [jFv, jputP, Ne.symm hk]
  · rw [List.getElem?_eq_none (by rw [List.length_set, jFs_len]; omega), List.getElem?_eq_none (by rw [jFs_len]; omega)]
theorem jPool_set {E : jE} {I I' : jI} {P P' : jP} {a i0 : Nat} {v : va_E} (hD : va_D (jA E) (jPool E I P)) (ha : a ∈ eL E) (hi : (jPool E I P)[i0]? = some (a, jCell E I P a)) (hv : v = jCell E I' P' a) (ho1 : ∀ b j, b ≠ a → I b j = I' b j) (ho2 : ∀ b j, b ≠ a → P b j = P' b j) : (jPool E I P).set i0 (a, v) = jPool E I' P' := by
  have h := va_pl_set (X := []) (f := jCell E I P) (e := v) hD ha hi
  refine Eq.trans h (va_pl_congr (fun b => ?_))
  by_cases hb : b = a
  · subst hb
    rw [va_up_self, hv]
  · rw [va_up_ne _ _ hb]
    exact jCell_congr (fun j => ho1 b j hb) (fun j => ho2 b j hb)
theorem jPool_get {E : jE} {I : jI} {P : jP} {a : Nat} (h : a ∈ eL E) : ∃ i0 : Nat, (jPool E I P)[i0]? = some (a, jCell E I P a) := va_pl_get (X := []) (f := jCell E I P) h
variable {E : jE} {own : String} {cc : ByteArray} {nL : Nat} {rt : Option FieldType} {R : Room} {Z : Code → List Frame → Array Value → State → State → Prop} {cs ss pc : Nat} {ls : List (Option jV)} {st : List jV} {I : jI} {P : jP}
theorem jJ_geti {idx ci k a : Nat} (hd : decode cc pc = .ok (.getfield idx, 3)) (hF : jF own idx ci k) (hr : jIsR (jTy ci k) = false) (ha : jK E ci a) (kk : jJ E own cc nL rt R Z cs ss (pc + 3) ls (ji (I a k) :: st) I P) : jJ E own cc nL rt R Z cs ss pc ls (jp a :: st) I P := by
  intro p e s m args below meth c H locs la hc hH hS hl h1 h2
  obtain ⟨q, hq, hk, hq1, hlk⟩ := hF
  obtain ⟨hn, h8⟩ := jcl_nf hq
  obtain ⟨i0, hi0⟩ := jPool_get (I := I) (P := P) ha.1
  rw [jCell_obj ha.2 h8] at hi0
  have hv : (jFs ci a I P)[k]? = some (.int (Int32.ofInt (I a k))) := by rw [jFs_get (by rw [← hn]; exact hk)]; simp [jFv, hr]
  have hw := kk p e s m args below meth c H locs la hc hH hS hl h1 ⟨hH.2.2 a k, h2.2⟩
  rcases hlk with h | ⟨host, h⟩
  · exact va_get (D := eD E) (C := q.1) (T := q.2.1) (N := q.2.2) hc.1 hc.2.1 hc.2.2.2.2.2.1 (jcl_in hq) hc.2.2.2.2.1 hc.2.2.2.2.2.2.2.1 hH.1 i0 hi0 hq k hk (hc.2.2.2.2.2.1 _ h) (fun x hx => by rw [hq1] at hx; exact hx) hv hd hw
  · exact va_getN (D := eD E) (C := q.1) (T := q.2.1) (N := q.2.2) hc.1 hc.2.1 hc.2.2.2.2.2.1 (jcl_in hq) hc.2.2.2.2.1 hc.2.2.2.2.2.2.2.1 hH.1 i0 hi0 hq k hk (va_Nw.use rfl (hc.2.2.2.2.2.2.2.2.1.1 _ h rfl)) (fun x hx => by rw [hq1] at hx; exact hx) hv hd hw
theorem jJ_getr {idx ci k a b : Nat} (hd : decode cc pc = .ok (.getfield idx, 3)) (hF : jF own idx ci k) (hr : jIsR (jTy ci k) = true) (ha : jK E ci a) (hb : P a k = some b) (kk : jJ E own cc nL rt R Z cs ss (pc + 3) ls (jp b :: st) I P) : jJ E own cc nL rt R Z cs ss pc ls (jp a :: st) I P := by
  intro p e s m args below meth c H locs la hc hH hS hl h1 h2
  obtain ⟨q, hq, hk, hq1, hlk⟩ := hF
  obtain ⟨hn, h8⟩ := jcl_nf hq
  obtain ⟨i0, hi0⟩ := jPool_get (I := I) (P := P) ha.1
  rw [jCell_obj ha.2 h8] at hi0
  have hv : (jFs ci a I P)[k]? = some (jc (jp b)) := by rw [jFs_get (by rw [← hn]; exact hk)]; simp [jFv, hr, hb, jc]
  have hw := kk p e s m args below meth c H locs la hc hH hS hl h1 ⟨trivial, h2.2⟩
  rcases hlk with h | ⟨host, h⟩
  · exact va_get (D := eD E) (C := q.1) (T := q.2.1) (N := q.2.2) hc.1 hc.2.1 hc.2.2.2.2.2.1 (jcl_in hq) hc.2.2.2.2.1 hc.2.2.2.2.2.2.2.1 hH.1 i0 hi0 hq k hk (hc.2.2.2.2.2.1 _ h) (fun x hx => by rw [hq1] at hx; exact hx) hv hd hw
  · exact va_getN (D := eD E) (C := q.1) (T := q.2.1) (N := q.2.2) hc.1 hc.2.1 hc.2.2.2.2.2.1 (jcl_in hq) hc.2.2.2.2.1 hc.2.2.2.2.2.2.2.1 hH.1 i0 hi0 hq k hk (va_Nw.use rfl (hc.2.2.2.2.2.2.2.2.1.1 _ h rfl)) (fun x hx => by rw [hq1] at hx; exact hx) hv hd hw
theorem jJ_puti {idx ci k a : Nat} {v : Int} (hd : decode cc pc = .ok (.putfield idx, 3)) (hF : jFw own idx ci k) (hr : jIsR (jTy ci k) = false) (hv : narrow (jTy ci k) (.int (Int32.ofInt v)) = .int (Int32.ofInt v) ∧ fits (jTy ci k) (.int (Int32.ofInt v)) = true) (ha : jK E ci a) (kk : jJ E own cc nL rt R Z cs ss (pc + 3) ls st (jput I a k v) P) : jJ E own cc nL rt R Z cs ss pc ls (ji v :: jp a :: st) I P := by
  intro p e s m args below meth c H locs la hc hH hS hl h1 h2
  obtain ⟨⟨q, hq, hk, hq1, hlk⟩, hfin⟩ := hF
  obtain ⟨hn, h8⟩ := jcl_nf hq
  obtain ⟨i0, hi0⟩ := jPool_get (I := I) (P := P) ha.1
  have hset := jPool_set (I' := jput I a k v) (P' := P) (v := .inr (ci, (jFs ci a I P).set k (.int (Int32.ofInt v)))) hH.2.1 ha.1 hi0 (by rw [jCell_obj ha.2 h8, jFs_put hr]) (fun b j hb => (jput_a I hb).symm) (fun b j hb => rfl)
  rw [jCell_obj ha.2 h8] at hi0
  have hlen : k < (jFs ci a I P).length := by rw [jFs_len, ← hn]; exact hk
  rcases hlk with h | ⟨host, h⟩
  · refine va_put (D := eD E) (C := q.1) (T := q.2.1) (N := q.2.2) hc.1 hc.2.1 hc.2.2.2.2.2.1 (jcl_in hq) (jTy ci) (jcl_ty hq) (jcl_nm hq) hc.2.2.2.2.1 hc.2.2.2.2.2.2.2.1 hH.1 hH.2.1 hS i0 hi0 hq k hk (hc.2.2.2.2.2.1 _ h) (fun x hx => by rw [hq1] at hx; exact hx) (hfin q hq) (jcl_ty hq k hk) hv.1 hv.2 hlen hd (fun H1 locs1 hP1 hD1 hS1 => ?_)
    exact kk p e s m args below meth c H1 locs1 la hc ⟨by rw [← hset]; exact hP1, by rw [← hset]; exact hD1, jRI_put hH.2.2 h2.1⟩ hS1 hl h1 h2.2.2
  · refine va_putN (D := eD E) (C := q.1) (T := q.2.1) (N := q.2.2) hc.1 hc.2.1 hc.2.2.2.2.2.1 (jcl_in hq) (jTy ci) (jcl_ty hq) (jcl_nm hq) hc.2.2.2.2.1 hc.2.2.2.2.2.2.2.1 hH.1 hH.2.1 hS i0 hi0 hq k hk (va_Nw.use rfl (hc.2.2.2.2.2.2.2.2.1.1 _ h rfl)) (fun x hx => by rw [hq1] at hx; exact hx) (hfin q hq) (jcl_ty hq k hk) hv.1 hv.2 hlen hd (fun H1 locs1 hP1 hD1 hS1 => ?_)
    exact kk p e s m args below meth c H1 locs1 la hc ⟨by rw [← hset]; exact hP1, by rw [← hset]; exact hD1, jRI_put hH.2.2 h2.1⟩ hS1 hl h1 h2.2.2
theorem jJ_putr {idx ci k a b : Nat} (hd : decode cc pc = .ok (.putfield idx, 3)) (hF : jFw own idx ci k) (hr : jIsR (jTy ci k) = true) (hv : narrow (jTy ci k) (.ref b) = .ref b ∧ fits (jTy ci k) (.ref b) = true) (ha : jK E ci a) (kk : jJ E own cc nL rt R Z cs ss (pc + 3) ls st I (jputP P a k (some b))) : jJ E own cc nL rt R Z cs ss pc ls (jp b :: jp a :: st) I P := by
  intro p e s m args below meth c H locs la hc hH hS hl h1 h2
  obtain ⟨⟨q, hq, hk, hq1, hlk⟩, hfin⟩ := hF
  obtain ⟨hn, h8⟩ := jcl_nf hq
  obtain ⟨i0, hi0⟩ := jPool_get (I := I) (P := P) ha.1
  have hset := jPool_set (I' := I) (P' := jputP P a k (some b)) (v := .inr (ci, (jFs ci a I P).set k (.ref b))) hH.2.1 ha.1 hi0 (by rw [jCell_obj ha.2 h8, ← jFs_putP hr]; rfl) (fun b j hb => rfl) (fun b j hb => by simp [jputP, hb])
  rw [jCell_obj ha.2 h8] at hi0
  have hlen : k < (jFs ci a I P).length := by rw [jFs_len, ← hn]; exact hk
  rcases hlk with h | ⟨host, h⟩
  · refine va_put (D := eD E) (C := q.1) (T := q.2.1) (N := q.2.2) hc.1 hc.2.1 hc.2.2.2.2.2.1 (jcl_in hq) (jTy ci) (jcl_ty hq) (jcl_nm hq) hc.2.2.2.2.1 hc.2.2.2.2.2.2.2.1 hH.1 hH.2.1 hS i0 hi0 hq k hk (hc.2.2.2.2.2.1 _ h) (fun x hx => by rw [hq1] at hx; exact hx) (hfin q hq) (jcl_ty hq k hk) hv.1 hv.2 hlen hd (fun H1 locs1 hP1 hD1 hS1 => ?_)
    exact kk p e s m args below meth c H1 locs1 la hc ⟨by rw [← hset]; exact hP1, by rw [← hset]; exact hD1, hH.2.2⟩ hS1 hl h1 h2.2.2
  · refine va_putN (D := eD E) (C := q.1) (T := q.2.1) (N := q.2.2) hc.1 hc.2.1 hc.2.2.2.2.2.1 (jcl_in hq) (jTy ci) (jcl_ty hq) (jcl_nm hq) hc.2.2.2.2.1 hc.2.2.2.2.2.2.2.1 hH.1 hH.2.1 hS i0 hi0 hq k hk (va_Nw.use rfl (hc.2.2.2.2.2.2.2.2.1.1 _ h rfl)) (fun x hx => by rw [hq1] at hx; exact hx) (hfin q hq) (jcl_ty hq k hk) hv.1 hv.2 hlen hd (fun H1 locs1 hP1 hD1 hS1 => ?_)
    exact kk p e s m args below meth c H1 locs1 la hc ⟨by rw [← hset]; exact hP1, by rw [← hset]; exact hD1, hH.2.2⟩ hS1 hl h1 h2.2.2
end JFC
