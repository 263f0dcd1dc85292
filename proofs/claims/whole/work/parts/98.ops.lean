section JOps
variable {E : jE} {I : jI} {P : jP} {d h m : Nat} {c x t hb a : Nat → Nat} {q u : Nat → Nat → Nat} {C : Nat → Prop} {tp l : List Int} {th nb : Nat → Int} {X : Nat → TX} {S : Nat → Nat → Int}
/-- the reference answers where cond holds, and throws where not -/
def rO (I : jI) (P : jP) (m : Nat) (cond : Prop) (ans ec : Int) : Option jV → jI → jP → Prop := fun v I' P' => P' = P ∧ ((cond ∧ v = some (ji ans) ∧ I' = jput I m 0 0) ∨ (¬ cond ∧ v = some (ji 0) ∧ I' = jput I m 0 ec))
theorem outM_eq {o r : Nat} {w : List Int × Int} (h1 : I o 1 = (w.1.length : Int)) (h2 : I o 2 = w.2) (h3 : ∀ k, k < w.1.length → I r k = w.1.getD k 0) : outM I o r w = I := by
  funext b k
  unfold outM
  split
  · rename_i z; rw [z.1, z.2, h1]
  · split
    · rename_i z; rw [z.1, z.2, h2]
    · split
      · rename_i z; rw [z.1, h3 k z.2]
      · rfl
theorem getD_map {f : Int → Int} {l : List Int} {k : Nat} (hk : k < l.length) : (l.map f).getD k 0 = f (l.getD k 0) := by
  rw [List.getD_eq_getElem?_getD, List.getD_eq_getElem?_getD, List.getElem?_map, List.getElem?_eq_getElem hk]
  rfl
theorem CS.out (hS : CS I h c x q hb tp th X nb S l) : outM I (c 6) (c 7) (l.map jB, 0) = I := by
  refine outM_eq (by rw [List.length_map]; exact hS.2.2.2.2.1) hS.2.2.2.2.2.1 (fun k hk => ?_)
  rw [List.length_map] at hk
  rw [getD_map hk]
  exact hS.2.2.2.2.2.2 k hk
/-! fault -/
theorem k_fault {w : Int} (hl : (eX E).stackTraces = false) (hL : CL E P h c x q t u hb) (hS : CS I h c x q hb tp th X nb S l) (hd : 6 ≤ d) : jCx E yX6_fault cX6_fault 2 (some .int) d 1 [jp h, ji w] I P (jDc (w = 0 ∨ w = 1) (some (ji (if w = 0 then nb 0 else nb 1))) I P) (jXx (¬ (w = 0 ∨ w = 1)) jNSE I P) := by
  have k := c_fault (I := I) (P := P) (w := w) hl hL.1 hd
  rw [hS.2.2.1.1, hS.2.2.1.2.1] at k
  exact k
theorem m_fault {w : Int} (hR : RfL E P m a) (hS : RW I m a tp th X nb S l) (hd : 1 ≤ d) : jC E yX7_fault cX7_fault 2 (some .int) d [jp m, ji w] I P (rO I P m (w = 0 ∨ w = 1) (if w = 0 then nb 0 else nb 1) 1) := by
  refine jC_mono (r_fault hR hd) ?_
  rintro v I' P' ⟨rfl, rfl, rfl⟩
  refine ⟨rfl, ?_⟩
  rw [hS.2.2.1.1, hS.2.2.1.2.1]
  by_cases z : w = 0 ∨ w = 1
  · refine Or.inl ⟨z, ?_, by rw [if_pos z]⟩
    by_cases z0 : w = 0
    · rw [if_pos z0, if_pos z0]
    · rw [if_neg z0, if_neg z0, if_pos (by omega)]
  · exact Or.inr ⟨z, by rw [if_neg (by omega), if_neg (by omega)], by rw [if_neg z]⟩
/-! about -/
def abV (x : TX) (w : Int) : Int := if w = 0 then ((xT x).length : Int) else if w = 1 then (xN x : Int) else if w = 2 then xH x else xS x
theorem k_about {t0 w : Int} (hl : (eX E).stackTraces = false) (hL : CL E P h c x q t u hb) (hS : CS I h c x q hb tp th X nb S l) (hW : WS tp th X nb l) (hd : 7 ≤ d) : jCx E yX6_about cX6_about 4 (some .int) d 2 [jp h, ji t0, ji w] I P (jDc (thr th t0 ∧ 0 ≤ w ∧ w ≤ 3) (some (ji (abV (X t0.toNat) w))) I P) (jXx (¬ (thr th t0 ∧ 0 ≤ w ∧ w ≤ 3)) jNSE I P) := by
  refine jCx_mono (c_about hl hL.1 hL.2.2.1.1 hL.2.2.1.2.1 hL.hts hd) ?_ ?_
  · rintro v I' P' ⟨⟨z1, z2⟩, rfl, rfl, rfl⟩
    have hx := (hS.cts hW t0.toNat (by have := z1.1; have := z1.2.1; omega) z1.2.2).1
    refine ⟨⟨hS.ex.mp z1, z2⟩, ?_, rfl, rfl⟩
    rw [hx.1.1, hx.1.2.1, hx.1.2.2.1, hx.1.2.2.2]
    rfl
  · rintro v I' P' ⟨z, rfl, rfl, rfl⟩
    exact ⟨fun y => z ⟨hS.ex.mpr y.1, y.2⟩, rfl, rfl, rfl⟩
theorem m_about {t0 w : Int} (hR : RfL E P m a) (hS : RW I m a tp th X nb S l) (hd : 2 ≤ d) : jC E yX7_about cX7_about 3 (some .int) d [jp m, ji t0, ji w] I P (rO I P m (thr th t0 ∧ 0 ≤ w ∧ w ≤ 3) (abV (X t0.toNat) w) 1) := by
  refine jC_mono (r_about hR hd) ?_
  rintro v I' P' ⟨rfl, rfl, rfl⟩
  refine ⟨rfl, ?_⟩
  by_cases z : (0 ≤ t0 ∧ t0 < 12 ∧ I (a 5) t0.toNat ≠ 0) ∧ 0 ≤ w ∧ w ≤ 3
  · have y := hS.ex.mp z.1
    have hx := (hS.2.1 t0.toNat (by have := y.1; have := y.2.1; omega)).2 y.2.2
    refine Or.inl ⟨⟨y, z.2⟩, ?_, by rw [if_pos z]⟩
    rw [if_pos z, hx.1, hx.2.1, hx.2.2.1, hx.2.2.2.1]
    rfl
  · exact Or.inr ⟨fun y => z ⟨hS.ex.mpr y.1, y.2⟩, by rw [if_neg z], by rw [if_neg z]⟩
/-! gap -/
theorem k_gap {t0 i w : Int} (hl : (eX E).stackTraces = false) (hL : CL E P h c x q t u hb) (hS : CS I h c x q hb tp th X nb S l) (hW : WS tp th X nb l) (hd : 7 ≤ d) : jCx E yX6_gap cX6_gap 5 (some .int) d 2 [jp h, ji t0, ji i, ji w] I P (jDc (thr th t0 ∧ (0 ≤ i ∧ i < ((xT (X t0.toNat)).length : Int) - 1) ∧ (0 ≤ w ∧ w ≤ 3)) (some (ji (gpV (X t0.toNat) i.toNat w))) I P) (jXx (¬ (thr th t0 ∧ (0 ≤ i ∧ i < ((xT (X t0.toNat)).length : Int) - 1) ∧ (0 ≤ w ∧ w ≤ 3))) jNSE I P) := by
  have hc := hS.cts hW
  refine jCx_mono (c_gap hl hL.1 hL.ts (fun t ht h8 => (hc t ht h8).1.txg (hc t ht h8).2) hd) ?_ ?_
  · rintro v I' P' ⟨⟨z1, z2, z3⟩, rfl, rfl, rfl⟩
    have hx := (hc t0.toNat (by have := z1.1; have := z1.2.1; omega) z1.2.2).1
    rw [hx.gaps] at z2
    have hi : i.toNat + 1 < (xT (X t0.toNat)).length := by omega
    refine ⟨⟨hS.ex.mp z1, by omega, z3⟩, ?_, rfl, rfl⟩
    rw [hx.tst hi, (hx.2.2.2 _ hi).1, (hx.2.2.2 _ hi).2, (hx.2.2.1 _ hi).2.2.2.1]
    rfl
  · rintro v I' P' ⟨z, rfl, rfl, rfl⟩
    refine ⟨fun y => z ⟨hS.ex.mpr y.1, ?_, y.2.2⟩, rfl, rfl, rfl⟩
    have y1 := hS.ex.mpr y.1
    have hx := (hc t0.toNat (by have := y1.1; have := y1.2.1; omega) y1.2.2).1
    rw [hx.gaps]
    have := y.2.1
    omega
theorem m_gap {t0 i w : Int} (hR : RfL E P m a) (hS : RW I m a tp th X nb S l) (hW : WS tp th X nb l) (hd : 3 ≤ d) : jC E yX7_gap cX7_gap 4 (some .int) d [jp m, ji t0, ji i, ji w] I P (rO I P m (thr th t0 ∧ (0 ≤ i ∧ i < ((xT (X t0.toNat)).length : Int) - 1) ∧ (0 ≤ w ∧ w ≤ 3)) (gpV (X t0.toNat) i.toNat w) 1) := by
  refine jC_mono (r_gap hR (hS.rts hW) hd) ?_
  rintro v I' P' ⟨rfl, z⟩
  refine ⟨rfl, ?_⟩
  rcases z with ⟨z1, z2, z3, z4, z5⟩ | ⟨z1, z2, z3⟩
  · exact Or.inl ⟨⟨hS.ex.mp z1, z2, z3⟩, z4, z5⟩
  · exact Or.inr ⟨fun y => z1 ⟨hS.ex.mpr y.1, y.2⟩, z2, z3⟩
/-! seen -/
theorem seX_th {th th' : Nat → Int} {kd ch : Int} (h : ∀ t, t < 12 → th t = th' t) : ∀ (k t : Nat), t + k = 12 → seX th X kd ch t k = seX th' X kd ch t k
  | 0, t, _ => rfl
  | k + 1, t, ht => by rw [seX, seX, h t (by omega), seX_th h k (t + 1) (by omega)]
theorem k_seen {kd ch : Int} (hl : (eX E).stackTraces = false) (hL : CL E P h c x q t u hb) (hS : CS I h c x q hb tp th X nb S l) (hW : WS tp th X nb l) (hd : 6 ≤ d) : jCx E yX6_seen cX6_seen 5 (some .int) d 1 [jp h, ji kd, ji ch] I P (jDc ((0 ≤ kd ∧ kd ≤ 15) ∧ -1 ≤ ch ∧ ch ≤ 3) (some (ji (seX th X kd ch 0 12))) I P) (jXx (¬ ((0 ≤ kd ∧ kd ≤ 15) ∧ -1 ≤ ch ∧ ch ≤ 3)) jIAE I P) := by
  have hc := hS.cts hW
  have k := c_seen (kd := kd) (ch := ch) hl hL.1 hL.ts (fun t ht h8 => by rw [(hc t ht h8).1.1.2.2.1]; have := (hc t ht h8).2.2.2.2.1; omega) hd
  rw [seM_eq (th := th) (X := X) hS.2.1 12 0 (by omega)] at k
  exact k
theorem m_seen {kd ch : Int} (hR : RfL E P m a) (hS : RW I m a tp th X nb S l) (hW : WS tp th X nb l) (hd : 3 ≤ d) : jC E yX7_seen cX7_seen 6 (some .int) d [jp m, ji kd, ji ch] I P (rO I P m ((0 ≤ kd ∧ kd ≤ 15) ∧ -1 ≤ ch ∧ ch ≤ 3) (seX th X kd ch 0 12) 1) := by
  refine jC_mono (r_seen hR (hS.rts hW) hd) ?_
  rintro v I' P' ⟨rfl, rfl, rfl⟩
  refine ⟨rfl, ?_⟩
  rw [seX_th (fun t ht => (hS.2.1 t ht).1) 12 0 (by omega)]
  by_cases z : (0 ≤ kd ∧ kd ≤ 15) ∧ -1 ≤ ch ∧ ch ≤ 3
  · exact Or.inl ⟨z, by rw [if_pos z], by rw [if_pos z]⟩
  · exact Or.inr ⟨z, by rw [if_neg z], by rw [if_neg z]⟩
/-! habit -/
theorem k_habit {k w : Int} (hl : (eX E).stackTraces = false) (hL : CL E P h c x q t u hb) (hS : CS I h c x q hb tp th X nb S l) (hd : 6 ≤ d) : jCx E yX6_habit cX6_habit 3 (some .int) d 1 [jp h, ji k, ji w] I P (jDc ((0 ≤ k ∧ k ≤ 15) ∧ 0 ≤ w ∧ w ≤ 7) (some (ji (if nb 4 = 0 then -1 else S k.toNat w.toNat))) I P) (jXx (¬ ((0 ≤ k ∧ k ≤ 15) ∧ 0 ≤ w ∧ w ≤ 7)) jIAE I P) := by
  refine jCx_mono (c_habit hl hL.1 hL.2.2.2.2.2.2.2.1 hd) ?_ (fun _ _ _ z => z)
  rintro v I' P' ⟨z, rfl, rfl, rfl⟩
  refine ⟨z, ?_, rfl, rfl⟩
  rw [hS.2.2.1.2.2.2.2.1]
  by_cases y : nb 4 = 0
  · rw [if_pos y, if_neg (by simp [y])]
  · rw [if_neg y, if_pos y]
    have e := hS.2.2.2.1 y k.toNat
    have g : w = 0 ∨ w = 1 ∨ w = 2 ∨ w = 3 ∨ w = 4 ∨ w = 5 ∨ w = 6 ∨ w = 7 := by omega
    rw [← e w.toNat (by omega) (by omega)]
    rcases g with rfl | rfl | rfl | rfl | rfl | rfl | rfl | rfl <;> rfl
theorem m_habit {k w : Int} (hR : RfL E P m a) (hS : RW I m a tp th X nb S l) (hd : 1 ≤ d) : jC E yX7_habit cX7_habit 3 (some .int) d [jp m, ji k, ji w] I P (rO I P m ((0 ≤ k ∧ k ≤ 15) ∧ 0 ≤ w ∧ w ≤ 7) (if nb 4 = 0 then -1 else S k.toNat w.toNat) 1) := by
  refine jC_mono (r_habit hR hd) ?_
  rintro v I' P' ⟨rfl, rfl, rfl⟩
  refine ⟨rfl, ?_⟩
  rw [hS.2.2.1.2.2.2.2.1]
  by_cases z : 0 ≤ k ∧ k ≤ 15 ∧ 0 ≤ w ∧ w ≤ 7
  · refine Or.inl ⟨by omega, ?_, by rw [if_pos z]⟩
    rw [if_pos z]
    by_cases y : nb 4 = 0
    · rw [if_pos y, if_pos y]
    · rw [if_neg y, if_neg y, show (8 * k + w).toNat = 8 * k.toNat + w.toNat by omega, hS.2.2.2.1 y _ _ (by omega) (by omega)]
  · exact Or.inr ⟨by omega, by rw [if_neg z], by rw [if_neg z]⟩
/-! told -/
theorem k_told {k : Int} (hl : (eX E).stackTraces = false) (hL : CL E P h c x q t u hb) (hS : CS I h c x q hb tp th X nb S l) (hW : WS tp th X nb l) (hd : 6 ≤ d) : jCx E yX6_told cX6_told 2 (some .int) d 1 [jp h, ji k] I P (jDc (-1 ≤ k ∧ k < (l.length : Int)) (some (ji (if k = -1 then (l.length : Int) else l.getD k.toNat 0))) I P) (jXx (¬ (-1 ≤ k ∧ k < (l.length : Int))) jNSE I P) := by
  obtain ⟨p12, ho, hor, hra, -⟩ := hL.2.2.2.2.2.2.2.2.2
  have hk := c_told (I := I) (P := P) (k := k) (w := (l.map jB, 0)) hl hL.1 p12 ho hor hra (by rw [List.length_map]; exact hW.2.2.2.1.1) hd
  rw [hS.out] at hk
  simp only [List.length_map] at hk
  refine jCx_mono hk ?_ (fun _ _ _ z => z)
  rintro v I' P' ⟨z, rfl, rfl, rfl⟩
  refine ⟨z, ?_, rfl, rfl⟩
  by_cases y : k = -1
  · rw [if_pos y, if_pos y]
  · rw [if_neg y, if_neg y, getD_map (by omega)]
    have hb : 0 ≤ l.getD k.toNat 0 ∧ l.getD k.toNat 0 ≤ 255 := hW.2.2.2.1.2 _ (by
      rw [List.getD_eq_getElem?_getD, List.getElem?_eq_getElem (by omega)]
      exact List.getElem_mem _)
    rw [bR_back (bR_jB hb)]
theorem m_told {k : Int} (hR : RfL E P m a) (hS : RW I m a tp th X nb S l) (hW : WS tp th X nb l) (hd : 1 ≤ d) : jC E yX7_told cX7_told 2 (some .int) d [jp m, ji k] I P (rO I P m (-1 ≤ k ∧ k < (l.length : Int)) (if k = -1 then (l.length : Int) else l.getD k.toNat 0) 1) := by
  have h20 := hS.2.2.2.2.1
  have hl := hW.2.2.2.1.1
  refine jC_mono (r_told hR (by omega) hd) ?_
  rintro v I' P' ⟨rfl, rfl, rfl⟩
  refine ⟨rfl, ?_⟩
  rw [h20]
  by_cases z : -1 ≤ k ∧ k < (l.length : Int)
  · refine Or.inl ⟨z, ?_, by rw [if_pos z]⟩
    rw [if_pos z]
    by_cases y : k = -1
    · rw [if_pos y, if_pos y]
    · rw [if_neg y, if_neg y, hS.2.2.2.2.2 _ (by omega)]
  · exact Or.inr ⟨z, by rw [if_neg z], by rw [if_neg z]⟩
/-! exception -/
theorem k_exception {t0 i : Int} (hl : (eX E).stackTraces = false) (hL : CL E P h c x q t u hb) (hS : CS I h c x q hb tp th X nb S l) (hW : WS tp th X nb l) (hd : 7 ≤ d) : jCx E yX6_exception cX6_exception 7 (some .int) d 2 [jp h, ji t0, ji i] I P (jDc (thr th t0 ∧ -1 ≤ i) (some (ji (if nb 4 = 0 then -1 else excV (fun g => decide (xTol S (X t0.toNat) g ≠ xCh (X t0.toNat) g)) i ((xT (X t0.toNat)).length - 1) 0 0))) I P) (fun Ec I' P' => ((¬ thr th t0 ∧ Ec = jNSE) ∨ (thr th t0 ∧ ¬ -1 ≤ i ∧ Ec = jIAE)) ∧ I' = I ∧ P' = P) := by
  have hc := hS.cts hW
  refine jCx_mono (c_exception hl hL.1 hL.2.2.2.2.2.2.2.1 hL.ts (fun t ht h8 => (hc t ht h8).1.txg (hc t ht h8).2) hd) ?_ ?_
  · rintro v I' P' ⟨⟨z1, z2⟩, rfl, rfl, rfl⟩
    have hx := (hc t0.toNat (by have := z1.1; have := z1.2.1; omega) z1.2.2).1
    refine ⟨⟨hS.ex.mp z1, z2⟩, ?_, rfl, rfl⟩
    rw [hS.2.2.1.2.2.2.2.1]
    by_cases y : nb 4 = 0
    · rw [if_pos y, if_pos y]
    · rw [if_neg y, if_neg y, hx.gaps, excV_cg (dif' := fun g => decide (xTol S (X t0.toNat) g ≠ xCh (X t0.toNat) g)) _ 0 0 (fun g hg => ?_)]
      rw [hx.tol (fun k j h1 h2 => hS.2.2.2.1 y k j h1 (by omega)) (by omega), (hx.2.2.2 g (by omega)).2]
  · rintro v I' P' ⟨z, rfl, rfl⟩
    refine ⟨?_, rfl, rfl⟩
    rw [hS.ex] at z
    exact z
theorem m_exception {t0 i : Int} (hR : RfL E P m a) (hS : RW I m a tp th X nb S l) (hW : WS tp th X nb l) (hd : 4 ≤ d) : jC E yX7_exception cX7_exception 5 (some .int) d [jp m, ji t0, ji i] I P (rO I P m (thr th t0 ∧ -1 ≤ i) (if nb 4 = 0 then -1 else excV (fun g => decide (xTol S (X t0.toNat) g ≠ xCh (X t0.toNat) g)) i ((xT (X t0.toNat)).length - 1) 0 0) (if 0 ≤ t0 ∧ t0 < 12 ∧ th t0.toNat ≠ 0 then 2 else 1)) := by
  have e16 := hS.2.2.1.2.2.2.2.1
  refine jC_mono (r_exception (S := S) hR (hS.rts hW) (fun z => hS.2.2.2.1 (by rw [← e16]; exact z)) hd) ?_
  rintro v I' P' ⟨rfl, z⟩
  refine ⟨rfl, ?_⟩
  rw [e16] at z
  rcases z with ⟨z1, z2, z4, z5⟩ | ⟨z1, z2, z3⟩ | ⟨z1, z2, z3, z4⟩
  · exact Or.inl ⟨⟨hS.ex.mp z1, z2⟩, z4, z5⟩
  · exact Or.inr ⟨fun y => z1 (hS.ex.mpr y.1), z2, by rw [if_neg (show ¬ (0 ≤ t0 ∧ t0 < 12 ∧ th t0.toNat ≠ 0) from fun y => z1 (hS.ex.mpr y))]; exact z3⟩
  · exact Or.inr ⟨fun y => z2 y.2, z3, by rw [if_pos (show 0 ≤ t0 ∧ t0 < 12 ∧ th t0.toNat ≠ 0 from hS.ex.mp z1)]; exact z4⟩
/-! alike -/
theorem k_alike {t0 u0 : Int} (hl : (eX E).stackTraces = false) (hL : CL E P h c x q t u hb) (hS : CS I h c x q hb tp th X nb S l) (hW : WS tp th X nb l) (hd : 7 ≤ d) : jCx E yX6_alike cX6_alike 6 (some .boolean) d 2 [jp h, ji t0, ji u0] I P (jDc (thr th t0 ∧ thr th u0) (some (ji (jb ((xT (X t0.toNat)).length = (xT (X u0.toNat)).length ∧ alkV (xNm (X t0.toNat)) (xNm (X u0.toNat)) (xT (X t0.toNat)).length 0 = true)))) I P) (jXx (¬ (thr th t0 ∧ thr th u0)) jNSE I P) := by
  have hc := hS.cts hW
  refine jCx_mono (c_alike hl hL.1 hL.ts (fun t ht h8 => (hc t ht h8).1.txi (hc t ht h8).2) hd) ?_ ?_
  · rintro v I' P' ⟨⟨z1, z2⟩, rfl, rfl, rfl⟩
    have hx := hc t0.toNat (by have := z1.1; have := z1.2.1; omega) z1.2.2
    have hy := hc u0.toNat (by have := z2.1; have := z2.2.1; omega) z2.2.2
    refine ⟨⟨hS.ex.mp z1, hS.ex.mp z2⟩, ?_, rfl, rfl⟩
    rw [hx.1.n11, hx.1.1.2.2.1, hy.1.1.2.2.1]
    by_cases e : (xT (X t0.toNat)).length = (xT (X u0.toNat)).length
    · rw [alkV_cg (a' := xNm (X t0.toNat)) (b' := xNm (X u0.toNat)) _ 0 (fun j hj => ⟨hx.1.nm hx.2 (by omega), hy.1.nm hy.2 (by omega)⟩)]
      simp only [e]
    · rw [← jb_f (fun z => e (Int.ofNat.inj z.1)), ← jb_f (fun z => e z.1)]
  · rintro v I' P' ⟨z, rfl, rfl, rfl⟩
    exact ⟨fun y => z ⟨hS.ex.mpr y.1, hS.ex.mpr y.2⟩, rfl, rfl, rfl⟩
theorem m_alike {t0 u0 : Int} (hR : RfL E P m a) (hS : RW I m a tp th X nb S l) (hW : WS tp th X nb l) (hd : 2 ≤ d) : jC E yX7_alike cX7_alike 5 (some .boolean) d [jp m, ji t0, ji u0] I P (rO I P m (thr th t0 ∧ thr th u0) (jb ((xT (X t0.toNat)).length = (xT (X u0.toNat)).length ∧ alkV (xNm (X t0.toNat)) (xNm (X u0.toNat)) (xT (X t0.toNat)).length 0 = true)) 1) := by
  refine jC_mono (r_alike hR (hS.rts hW) hd) ?_
  rintro v I' P' ⟨rfl, z⟩
  refine ⟨rfl, ?_⟩
  rcases z with ⟨z1, z2, z3, z4⟩ | ⟨z1, z2, z3⟩
  · exact Or.inl ⟨⟨hS.ex.mp z1, hS.ex.mp z2⟩, z3, z4⟩
  · exact Or.inr ⟨fun y => z1 ⟨hS.ex.mpr y.1, hS.ex.mpr y.2⟩, z2, z3⟩
end JOps
