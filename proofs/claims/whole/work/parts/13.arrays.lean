section JFD
theorem jCell_arr {E : jE} {I : jI} {P : jP} {kd a n : Nat} (h : jAr E kd a n) (h8 : 8 ≤ kd) (h11 : kd < 11) : jCell E I P a = .inl (eCy E kd, n, .inl (fun j => Int32.ofInt (I a j))) := by
  obtain ⟨-, rfl, rfl⟩ := h
  simp only [jCell, if_neg (Nat.not_lt.mpr h8), if_pos h11]
theorem jCell_arq {E : jE} {I : jI} {P : jP} {kd a n : Nat} (h : jAr E kd a n) (h8 : 11 ≤ kd) (h11 : kd < 14) : jCell E I P a = .inl (eCy E kd, n, .inr (.inr (.inr (.inr (fun j => P a j))))) := by
  obtain ⟨-, rfl, rfl⟩ := h
  simp only [jCell, if_neg (show ¬ eK E a < 8 by omega), if_neg (show ¬ eK E a < 11 by omega), if_pos h11]
theorem jCell_arl {E : jE} {I : jI} {P : jP} {a n : Nat} (h : jAr E 14 a n) : jCell E I P a = .inl (eCy E 14, n, .inr (.inl (fun j => Int64.ofInt (I a j)))) := by
  obtain ⟨-, h2, rfl⟩ := h
  simp [jCell, h2]
theorem jupd {I : jI} {a i : Nat} {v : Int} : upd (fun j => Int32.ofInt (I a j)) i (Int32.ofInt v) = fun j => Int32.ofInt (jput I a i v a j) := by
  funext j
  by_cases h : j = i
  · subst h; rw [pk_us, jput_s]
  · rw [pk_un h, jput_k I h]
theorem jupdl {I : jI} {a i : Nat} {v : Int} : vp_updL (fun j => Int64.ofInt (I a j)) i (Int64.ofInt v) = fun j => Int64.ofInt (jput I a i v a j) := by
  funext j
  by_cases h : j = i
  · subst h; rw [pk_uLs, jput_s]
  · rw [pk_uLn h, jput_k I h]
theorem jPool_arr {E : jE} {I : jI} {P : jP} {kd a n i i0 : Nat} {v : Int} (h : jAr E kd a n) (h8 : 8 ≤ kd) (h11 : kd < 11) (hD : va_D (jA E) (jPool E I P)) (hi : (jPool E I P)[i0]? = some (a, jCell E I P a)) : (jPool E I P).set i0 (a, .inl (eCy E kd, n, .inl (upd (fun j => Int32.ofInt (I a j)) i (Int32.ofInt v)))) = jPool E (jput I a i v) P :=
  jPool_set hD h.1 hi (by rw [jCell_arr h h8 h11, jupd]) (fun b j hb => (jput_a I hb).symm) (fun b j hb => rfl)
variable {E : jE} {own : String} {cc : ByteArray} {nL : Nat} {rt : Option FieldType} {R : Room} {Z : Code → List Frame → Array Value → State → State → Prop} {cs ss pc : Nat} {ls : List (Option jV)} {st : List jV} {I : jI} {P : jP}
theorem jJ_alen {kd t0 a n : Nat} {ty : FieldType} (hd : decode cc pc = .ok (.arraylength, 1)) (ha : jAr E kd a n) (ht : (jTys E)[t0]? = some (eCy E kd, ty)) (h8 : 8 ≤ kd) (h15 : kd < 15) (hn : jR (n : Int)) (kk : jJ E own cc nL rt R Z cs ss (pc + 1) ls (ji (n : Int) :: st) I P) : jJ E own cc nL rt R Z cs ss pc ls (jp a :: st) I P := by
  intro p e s m args below meth c H locs la hc hH hS hl h1 h2
  obtain ⟨i0, hi0⟩ := jPool_get (I := I) (P := P) ha.1
  have hw := kk p e s m args below meth c H locs la hc hH hS hl h1 ⟨hn, h2.2⟩
  have hcell : ∃ x : vp_A, x.1 = n ∧ jCell E I P a = .inl (eCy E kd, x) := by
    by_cases q1 : kd < 11
    · exact ⟨_, rfl, jCell_arr ha h8 q1⟩
    · by_cases q2 : kd < 14
      · exact ⟨_, rfl, jCell_arq ha (by omega) q2⟩
      · have : kd = 14 := by omega
        subst this
        exact ⟨_, rfl, jCell_arl ha⟩
  obtain ⟨x, hx, hx2⟩ := hcell
  rw [hx2] at hi0
  exact va_alen hc.1 hc.2.1 hc.2.2.2.2.2.2.2.1 hH.1 i0 t0 hi0 ht (by rw [hx, ← Int32.ofInt_eq_ofNat]) hd hw
theorem jJ_iald {a n : Nat} {i : Int} (hd : decode cc pc = .ok (.iaload, 1)) (ha : jAr E 9 a n) (hi : 0 ≤ i ∧ i < n) (kk : jJ E own cc nL rt R Z cs ss (pc + 1) ls (ji (I a i.toNat) :: st) I P) : jJ E own cc nL rt R Z cs ss pc ls (ji i :: jp a :: st) I P := by
  intro p e s m args below meth c H locs la hc hH hS hl h1 h2
  obtain ⟨i0, hi0⟩ := jPool_get (I := I) (P := P) ha.1
  rw [jCell_arr ha (by decide) (by decide)] at hi0
  have hw := kk p e s m args below meth c H locs la hc hH hS hl h1 ⟨hH.2.2 a i.toNat, h2.2.2⟩
  refine va_iald hc.1 hc.2.1 hc.2.2.2.2.2.2.2.1 hH.1 i0 1 hi0 rfl (jin h2.1 hi.1 hi.2) hd ?_
  rw [j32_clamp h2.1 hi.1]
  exact hw
theorem jJ_bald {a n : Nat} {i : Int} (hd : decode cc pc = .ok (.baload, 1)) (ha : jAr E 8 a n) (hi : 0 ≤ i ∧ i < n) (kk : jJ E own cc nL rt R Z cs ss (pc + 1) ls (ji (I a i.toNat) :: st) I P) : jJ E own cc nL rt R Z cs ss pc ls (ji i :: jp a :: st) I P := by
  intro p e s m args below meth c H locs la hc hH hS hl h1 h2
  obtain ⟨i0, hi0⟩ := jPool_get (I := I) (P := P) ha.1
  rw [jCell_arr ha (by decide) (by decide)] at hi0
  have hw := kk p e s m args below meth c H locs la hc hH hS hl h1 ⟨hH.2.2 a i.toNat, h2.2.2⟩
  refine va_bald hc.1 hc.2.1 hc.2.2.2.2.2.2.2.1 hH.1 i0 0 hi0 rfl (jin h2.1 hi.1 hi.2) hd ?_
  rw [j32_clamp h2.1 hi.1]
  exact hw
theorem jJ_zald {a n : Nat} {i : Int} (hd : decode cc pc = .ok (.baload, 1)) (ha : jAr E 10 a n) (hi : 0 ≤ i ∧ i < n) (kk : jJ E own cc nL rt R Z cs ss (pc + 1) ls (ji (I a i.toNat) :: st) I P) : jJ E own cc nL rt R Z cs ss pc ls (ji i :: jp a :: st) I P := by
  intro p e s m args below meth c H locs la hc hH hS hl h1 h2
  obtain ⟨i0, hi0⟩ := jPool_get (I := I) (P := P) ha.1
  rw [jCell_arr ha (by decide) (by decide)] at hi0
  have hw := kk p e s m args below meth c H locs la hc hH hS hl h1 ⟨hH.2.2 a i.toNat, h2.2.2⟩
  refine va_zald hc.1 hc.2.1 hc.2.2.2.2.2.2.2.1 hH.1 i0 2 hi0 rfl (jin h2.1 hi.1 hi.2) hd ?_
  rw [j32_clamp h2.1 hi.1]
  exact hw
theorem jJ_iast {a n : Nat} {i v : Int} (hd : decode cc pc = .ok (.iastore, 1)) (ha : jAr E 9 a n) (hi : 0 ≤ i ∧ i < n) (kk : jJ E own cc nL rt R Z cs ss (pc + 1) ls st (jput I a i.toNat v) P) : jJ E own cc nL rt R Z cs ss pc ls (ji v :: ji i :: jp a :: st) I P := by
  intro p e s m args below meth c H locs la hc hH hS hl h1 h2
  obtain ⟨i0, hi0⟩ := jPool_get (I := I) (P := P) ha.1
  have hset := jPool_arr (i := i.toNat) (v := v) ha (by decide) (by decide) hH.2.1 hi0
  rw [jCell_arr ha (by decide) (by decide)] at hi0
  refine va_iast hc.1 hc.2.1 hc.2.2.2.2.2.2.2.1 hH.1 hH.2.1 hS i0 1 hi0 rfl (x := Int32.ofInt v) (jin h2.2.1 hi.1 hi.2) hd (fun H1 locs1 hP1 hD1 hS1 => ?_)
  rw [j32_clamp h2.2.1 hi.1] at hP1 hD1
  exact kk p e s m args below meth c H1 locs1 la hc ⟨by rw [← hset]; exact hP1, by rw [← hset]; exact hD1, jRI_put hH.2.2 h2.1⟩ hS1 hl h1 h2.2.2.2
theorem jB_R (x : Int) : jR (jB x) := jR32 _
theorem jB_of (x : Int) : Int32.ofInt (jB x) = vp_nar .byte (Int32.ofInt x) := by rw [vp_nar_byte]; exact Int32.ofInt_toInt _
theorem jJ_bast {a n : Nat} {i v : Int} (hd : decode cc pc = .ok (.bastore, 1)) (ha : jAr E 8 a n) (hi : 0 ≤ i ∧ i < n) (kk : jJ E own cc nL rt R Z cs ss (pc + 1) ls st (jput I a i.toNat (jB v)) P) : jJ E own cc nL rt R Z cs ss pc ls (ji v :: ji i :: jp a :: st) I P := by
  intro p e s m args below meth c H locs la hc hH hS hl h1 h2
  obtain ⟨i0, hi0⟩ := jPool_get (I := I) (P := P) ha.1
  have hset := jPool_arr (i := i.toNat) (v := jB v) ha (by decide) (by decide) hH.2.1 hi0
  rw [jB_of] at hset
  rw [jCell_arr ha (by decide) (by decide)] at hi0
  refine va_bast hc.1 hc.2.1 hc.2.2.2.2.2.2.2.1 hH.1 hH.2.1 hS i0 0 hi0 rfl (x := Int32.ofInt v) (jin h2.2.1 hi.1 hi.2) hd (fun H1 locs1 hP1 hD1 hS1 => ?_)
  rw [j32_clamp h2.2.1 hi.1] at hP1 hD1
  exact kk p e s m args below meth c H1 locs1 la hc ⟨by rw [← hset]; exact hP1, by rw [← hset]; exact hD1, jRI_put hH.2.2 (jB_R v)⟩ hS1 hl h1 h2.2.2.2
theorem jJ_zast {a n : Nat} {i v : Int} (hd : decode cc pc = .ok (.bastore, 1)) (ha : jAr E 10 a n) (hi : 0 ≤ i ∧ i < n) (hv : v = 0 ∨ v = 1) (kk : jJ E own cc nL rt R Z cs ss (pc + 1) ls st (jput I a i.toNat v) P) : jJ E own cc nL rt R Z cs ss pc ls (ji v :: ji i :: jp a :: st) I P := by
  intro p e s m args below meth c H locs la hc hH hS hl h1 h2
  obtain ⟨i0, hi0⟩ := jPool_get (I := I) (P := P) ha.1
  have hset := jPool_arr (i := i.toNat) (v := v) ha (by decide) (by decide) hH.2.1 hi0
  have hn : vp_nar .boolean (Int32.ofInt v) = Int32.ofInt v := by rcases hv with rfl | rfl <;> decide
  rw [jCell_arr ha (by decide) (by decide)] at hi0
  refine va_zast hc.1 hc.2.1 hc.2.2.2.2.2.2.2.1 hH.1 hH.2.1 hS i0 2 hi0 rfl (x := Int32.ofInt v) (jin h2.2.1 hi.1 hi.2) hd (fun H1 locs1 hP1 hD1 hS1 => ?_)
  rw [j32_clamp h2.2.1 hi.1] at hP1 hD1
  try rw [hn] at hP1 hD1
  exact kk p e s m args below meth c H1 locs1 la hc ⟨by rw [← hset]; exact hP1, by rw [← hset]; exact hD1, jRI_put hH.2.2 h2.1⟩ hS1 hl h1 h2.2.2.2
theorem jJ_aald {kd t0 a n b : Nat} {C : String} {i : Int} (hd : decode cc pc = .ok (.aaload, 1)) (ha : jAr E kd a n) (ht : (jTys E)[t0]? = some (eCy E kd, .object C)) (h8 : 11 ≤ kd ∧ kd < 14) (hi : 0 ≤ i ∧ i < n) (hb : P a i.toNat = some b) (kk : jJ E own cc nL rt R Z cs ss (pc + 1) ls (jp b :: st) I P) : jJ E own cc nL rt R Z cs ss pc ls (ji i :: jp a :: st) I P := by
  intro p e s m args below meth c H locs la hc hH hS hl h1 h2
  obtain ⟨i0, hi0⟩ := jPool_get (I := I) (P := P) ha.1
  rw [jCell_arq ha h8.1 h8.2] at hi0
  have hw := kk p e s m args below meth c H locs la hc hH hS hl h1 ⟨trivial, h2.2.2⟩
  refine va_aldq hc.1 hc.2.1 hc.2.2.2.2.2.2.2.1 hH.1 i0 t0 hi0 ht (jin h2.1 hi.1 hi.2) hd ?_
  rw [j32_clamp h2.1 hi.1, hb]
  exact hw
theorem jJ_aast {kd t0 a n b ci : Nat} {r : vw_C} {i : Int} (hd : decode cc pc = .ok (.aastore, 1)) (ha : jAr E kd a n) (hr : vwCl[ci]? = some r) (ht : (jTys E)[t0]? = some (eCy E kd, .object r.1)) (h8 : 11 ≤ kd ∧ kd < 14) (hi : 0 ≤ i ∧ i < n) (hb : jK E ci b) (kk : jJ E own cc nL rt R Z cs ss (pc + 1) ls st I (jputP P a i.toNat (some b))) : jJ E own cc nL rt R Z cs ss pc ls (jp b :: ji i :: jp a :: st) I P := by
  intro p e s m args below meth c H locs la hc hH hS hl h1 h2
  obtain ⟨i0, hi0⟩ := jPool_get (I := I) (P := P) ha.1
  obtain ⟨i1, hi1⟩ := jPool_get (I := I) (P := P) hb.1
  obtain ⟨hn, hc8⟩ := jcl_nf hr
  have hset := jPool_set (I' := I) (P' := jputP P a i.toNat (some b)) (v := .inl (eCy E kd, n, .inr (.inr (.inr (.inr (va_up (fun j => P a j) i.toNat (some b))))))) hH.2.1 ha.1 hi0 (by
    rw [jCell_arq ha h8.1 h8.2]
    have : va_up (fun j => P a j) i.toNat (some b) = fun j => jputP P a i.toNat (some b) a j := by
      funext j
      simp [va_up, jputP]
    rw [this]) (fun b j hb => rfl) (fun b j hb => by simp [jputP, hb])
  rw [jCell_arq ha h8.1 h8.2] at hi0
  rw [jCell_obj hb.2 hc8] at hi1
  refine va_astq hc.1 hc.2.1 hc.2.2.2.2.2.2.2.1 hH.1 hH.2.1 hS i0 t0 i1 ci hi0 ht hi1 hr (jin h2.2.1 hi.1 hi.2) hd (fun H1 locs1 hP1 hD1 hS1 => ?_)
  rw [j32_clamp h2.2.1 hi.1] at hP1 hD1
  exact kk p e s m args below meth c H1 locs1 la hc ⟨by rw [← hset]; exact hP1, by rw [← hset]; exact hD1, hH.2.2⟩ hS1 hl h1 h2.2.2.2
end JFD
