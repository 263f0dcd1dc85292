section JEnt
/-- the constants' terms -/
def jTo : List (String × Nat) := [(RX6, 261), (RX6, 267), (RX6, 269), (RX6, 271), (RX7, 111), (RX7, 149), (RX7, 151), (RX7, 156), (RX7, 161), (RX7, 182), (RX7, 184), (RX7, 186), (RX7, 194), (RX7, 196), (RX7, 203)]
def jTm (i : Nat) : Term := .string (jTo.getD i (RX6, 0)).1 (jTo.getD i (RX6, 0)).2
def jGv : List Cond := flatC (Jvm.Cond.and given_1 narrow_1)
theorem gv_ex : ∀ i, i < 15 → Cond.exactly (jTm i) "java/lang/String" ∈ jGv := by decide +kernel
theorem gv_co : ∀ i, i < 15 → Cond.eq (.field (jTm i) "java/lang/String" "coder" "B") (.int 0) ∈ jGv := by decide +kernel
theorem gv_ar : ∀ i, i < 15 → Cond.arrayOf (.field (jTm i) "java/lang/String" "value" "[B") .byte ∈ jGv := by decide +kernel
theorem gv_le : ∀ i, i < 15 → Cond.eq (.length (.field (jTm i) "java/lang/String" "value" "[B")) (.int (Int32.ofNat (jSLen.getD i 0))) ∈ jGv := by decide +kernel
theorem gv_el : ∀ i, i < 15 → ∀ j, j < jSLen.getD i 0 → Cond.eq (.elem (.field (jTm i) "java/lang/String" "value" "[B") (.int (Int32.ofNat j))) (.int ((jSB.getD i []).getD j 0)) ∈ jGv := by decide +kernel
def gvN1 : List (Nat × Nat × Nat) := [(0, 1, 43)]
theorem gvN1_ok : ∀ q ∈ gvN1, jGv[q.2.2]? = some (Cond.not (Cond.eq (jTm q.1) (jTm q.2.1))) := by decide +kernel
def gvN2 : List (Nat × Nat × Nat) := [(0, 2, 53), (1, 2, 54)]
theorem gvN2_ok : ∀ q ∈ gvN2, jGv[q.2.2]? = some (Cond.not (Cond.eq (jTm q.1) (jTm q.2.1))) := by decide +kernel
def gvN3 : List (Nat × Nat × Nat) := [(0, 3, 63), (1, 3, 64), (2, 3, 65)]
theorem gvN3_ok : ∀ q ∈ gvN3, jGv[q.2.2]? = some (Cond.not (Cond.eq (jTm q.1) (jTm q.2.1))) := by decide +kernel
def gvN4 : List (Nat × Nat × Nat) := [(0, 4, 80), (1, 4, 81), (2, 4, 82), (3, 4, 83)]
theorem gvN4_ok : ∀ q ∈ gvN4, jGv[q.2.2]? = some (Cond.not (Cond.eq (jTm q.1) (jTm q.2.1))) := by decide +kernel
def gvN5 : List (Nat × Nat × Nat) := [(0, 5, 102), (1, 5, 103), (2, 5, 104), (3, 5, 105), (4, 5, 106)]
theorem gvN5_ok : ∀ q ∈ gvN5, jGv[q.2.2]? = some (Cond.not (Cond.eq (jTm q.1) (jTm q.2.1))) := by decide +kernel
def gvN6 : List (Nat × Nat × Nat) := [(0, 6, 113), (1, 6, 114), (2, 6, 115), (3, 6, 116), (4, 6, 117), (5, 6, 119)]
theorem gvN6_ok : ∀ q ∈ gvN6, jGv[q.2.2]? = some (Cond.not (Cond.eq (jTm q.1) (jTm q.2.1))) := by decide +kernel
def gvN7 : List (Nat × Nat × Nat) := [(0, 7, 125), (1, 7, 126), (2, 7, 127), (3, 7, 128), (4, 7, 129), (5, 7, 131), (6, 7, 132)]
theorem gvN7_ok : ∀ q ∈ gvN7, jGv[q.2.2]? = some (Cond.not (Cond.eq (jTm q.1) (jTm q.2.1))) := by decide +kernel
def gvN8 : List (Nat × Nat × Nat) := [(0, 8, 138), (1, 8, 139), (2, 8, 140), (3, 8, 141), (4, 8, 142), (5, 8, 144), (6, 8, 145), (7, 8, 146)]
theorem gvN8_ok : ∀ q ∈ gvN8, jGv[q.2.2]? = some (Cond.not (Cond.eq (jTm q.1) (jTm q.2.1))) := by decide +kernel
def gvN9 : List (Nat × Nat × Nat) := [(0, 9, 208), (1, 9, 209), (2, 9, 210), (3, 9, 211), (4, 9, 212), (5, 9, 214), (6, 9, 215), (7, 9, 216), (8, 9, 217)]
theorem gvN9_ok : ∀ q ∈ gvN9, jGv[q.2.2]? = some (Cond.not (Cond.eq (jTm q.1) (jTm q.2.1))) := by decide +kernel
def gvN10 : List (Nat × Nat × Nat) := [(0, 10, 226), (1, 10, 227), (2, 10, 228), (3, 10, 229), (4, 10, 230), (5, 10, 232), (6, 10, 233), (7, 10, 234), (8, 10, 235), (9, 10, 239)]
theorem gvN10_ok : ∀ q ∈ gvN10, jGv[q.2.2]? = some (Cond.not (Cond.eq (jTm q.1) (jTm q.2.1))) := by decide +kernel
def gvN11 : List (Nat × Nat × Nat) := [(0, 11, 245), (1, 11, 246), (2, 11, 247), (3, 11, 248), (4, 11, 249), (5, 11, 251), (6, 11, 252), (7, 11, 253), (8, 11, 254), (9, 11, 258), (10, 11, 259)]
theorem gvN11_ok : ∀ q ∈ gvN11, jGv[q.2.2]? = some (Cond.not (Cond.eq (jTm q.1) (jTm q.2.1))) := by decide +kernel
def gvN12 : List (Nat × Nat × Nat) := [(0, 12, 265), (1, 12, 266), (2, 12, 267), (3, 12, 268), (4, 12, 269), (5, 12, 271), (6, 12, 272), (7, 12, 273), (8, 12, 274), (9, 12, 278), (10, 12, 279), (11, 12, 280)]
theorem gvN12_ok : ∀ q ∈ gvN12, jGv[q.2.2]? = some (Cond.not (Cond.eq (jTm q.1) (jTm q.2.1))) := by decide +kernel
def gvN13 : List (Nat × Nat × Nat) := [(0, 13, 286), (1, 13, 287), (2, 13, 288), (3, 13, 289), (4, 13, 290), (5, 13, 292), (6, 13, 293), (7, 13, 294), (8, 13, 295), (9, 13, 299), (10, 13, 300), (11, 13, 301), (12, 13, 302)]
theorem gvN13_ok : ∀ q ∈ gvN13, jGv[q.2.2]? = some (Cond.not (Cond.eq (jTm q.1) (jTm q.2.1))) := by decide +kernel
def gvN14 : List (Nat × Nat × Nat) := [(0, 14, 308), (1, 14, 309), (2, 14, 310), (3, 14, 311), (4, 14, 312), (5, 14, 314), (6, 14, 315), (7, 14, 316), (8, 14, 317), (9, 14, 321), (10, 14, 322), (11, 14, 323), (12, 14, 324), (13, 14, 325)]
theorem gvN14_ok : ∀ q ∈ gvN14, jGv[q.2.2]? = some (Cond.not (Cond.eq (jTm q.1) (jTm q.2.1))) := by decide +kernel
def gvN : List (Nat × Nat × Nat) := gvN1 ++ (gvN2 ++ (gvN3 ++ (gvN4 ++ (gvN5 ++ (gvN6 ++ (gvN7 ++ (gvN8 ++ (gvN9 ++ (gvN10 ++ (gvN11 ++ (gvN12 ++ (gvN13 ++ (gvN14)))))))))))))
theorem gvN_ok : ∀ q ∈ gvN, jGv[q.2.2]? = some (Cond.not (Cond.eq (jTm q.1) (jTm q.2.1))) := List.forall_mem_append.mpr ⟨gvN1_ok, List.forall_mem_append.mpr ⟨gvN2_ok, List.forall_mem_append.mpr ⟨gvN3_ok, List.forall_mem_append.mpr ⟨gvN4_ok, List.forall_mem_append.mpr ⟨gvN5_ok, List.forall_mem_append.mpr ⟨gvN6_ok, List.forall_mem_append.mpr ⟨gvN7_ok, List.forall_mem_append.mpr ⟨gvN8_ok, List.forall_mem_append.mpr ⟨gvN9_ok, List.forall_mem_append.mpr ⟨gvN10_ok, List.forall_mem_append.mpr ⟨gvN11_ok, List.forall_mem_append.mpr ⟨gvN12_ok, List.forall_mem_append.mpr ⟨gvN13_ok, gvN14_ok⟩⟩⟩⟩⟩⟩⟩⟩⟩⟩⟩⟩⟩
theorem gvN_all : ∀ i, i < 15 → ∀ j, j < 15 → i ≠ j → ∃ q ∈ gvN, (q.1 = i ∧ q.2.1 = j) ∨ (q.1 = j ∧ q.2.1 = i) := by decide +kernel
theorem gv_ne : ∀ i, i < 15 → ∀ j, j < 15 → i ≠ j → Cond.not (Cond.eq (jTm i) (jTm j)) ∈ jGv ∨ Cond.not (Cond.eq (jTm j) (jTm i)) ∈ jGv := by
  intro i hi j hj hne
  obtain ⟨q, hq, ⟨rfl, rfl⟩ | ⟨rfl, rfl⟩⟩ := gvN_all i hi j hj hne
  · exact Or.inl (List.mem_of_getElem? (gvN_ok q hq))
  · exact Or.inr (List.mem_of_getElem? (gvN_ok q hq))
theorem gv_sr : ∀ q ∈ jSR, Cond.stringRef q.1 q.2.1 (jTx.getD q.2.2 "") ∈ lw_tbl ∧ q.2.2 < 15 ∧ (Term.string q.1 q.2.1 = jTm q.2.2 ∨ Cond.eq (jTm q.2.2) (.string q.1 q.2.1) ∈ jGv) := by decide +kernel
theorem gv_st : Cond.eq (.static "java/lang/String" "COMPACT_STRINGS" "Z") (.int 1) ∈ jGv ∧ Cond.isRef (.static Bundle.tN "UNASSIGNED_STACK" Bundle.steD) ∈ jGv ∧ Cond.isRef (.static Bundle.tN "SUPPRESSED_SENTINEL" Bundle.listD) ∈ jGv ∧ Cond.isRef (.static "jdk/internal/util/Preconditions" "SIOOBE_FORMATTER" "Ljava/util/function/BiFunction;") ∈ jGv ∧ Cond.not (.castable jIAE jNSE) ∈ jGv := by decide +kernel
theorem gv_ly : (Cond.laysStatic "java/lang/String" "COMPACT_STRINGS" "Z" ∈ lw_tbl ∧ Cond.initialized "java/lang/String" ∈ lw_tbl) ∧ (Cond.laysStatic Bundle.tN "UNASSIGNED_STACK" Bundle.steD ∈ lw_tbl ∧ Cond.laysStatic Bundle.tN "SUPPRESSED_SENTINEL" Bundle.listD ∈ lw_tbl ∧ Cond.initialized Bundle.tN ∈ lw_tbl) ∧ (Cond.laysStatic "jdk/internal/util/Preconditions" "SIOOBE_FORMATTER" "Ljava/util/function/BiFunction;" ∈ lw_tbl ∧ Cond.initialized "jdk/internal/util/Preconditions" ∈ lw_tbl) ∧ Cond.arrayOver (.object RX0) ∈ lw_tbl ∧ Cond.arrayOver (.object RX4) ∈ lw_tbl ∧ Cond.arrayOver (.object RX5) ∈ lw_tbl := by decide +kernel
theorem eq_ref {args : Array Value} {s : State} {t1 t2 : Term} {a : Nat} (h : (Cond.eq t1 t2).before args s = true) (h1 : t1.eval args s none [] s = some (.ref a)) : t2.eval args s none [] s = some (.ref a) := by
  cases hv : t2.eval args s none [] s with
  | none => simp [Cond.before, Cond.holds, Cond.value, h1, hv] at h
  | some w =>
    simp only [Cond.before, Cond.holds, Cond.value, h1, hv] at h
    cases w <;> simp_all
theorem arr_prim {args : Array Value} {s : State} {ty : FieldType} (h : (Cond.arrayClass ty).before args s = true) : ∃ cA : ClassId, ArrOfT s cA ty ∧ s.vm.findClass ("[" ++ ty.toString) = some cA := by
  obtain ⟨cA, kA, comp, h1, h2, h3⟩ := Cond.arrayClass_spec h
  exact ⟨cA, fun n z => ⟨fun k h => (by cases h), kA, h2, comp, h3⟩, h1⟩
theorem arr_obj {s : State} {C : String} (h : va_AO C s) : ∃ cA : ClassId, ArrOfT s cA (.object C) ∧ va_RA s cA (.object C) := by
  obtain ⟨comp, cA, kA, h1, -, h3, h4, h5⟩ := Cond.arrayOver_spec h
  exact ⟨cA, fun n z => ⟨fun k h => (by cases h), kA, h3, comp, h4⟩, kA, comp, h3, h4, h1, h5⟩
/-- what the law's start gives -/
theorem law_world {p : Program} {s : State} {m : MethodId} {meth : Method} {c : Code} (l : Launch) {b L : Nat} {xs : Nat → Int32} (C0 : lw_At p s m meth c b L xs) : ∃ E : jE, eX E = l ∧ eZ E = s.heap.size ∧ eL E = [] ∧ va_K (eD E) vwCl (jTys E) s ∧ jX E s s.heap ∧ jAO s ∧ jNc s := by
  obtain ⟨hx, hb, hr, hml, hown, hts, hX, hbl, hlocks, hgv⟩ := id C0
  have hf : ∀ w ∈ jGv, w.before #[Value.ref b] s = true := flat_of_before _ hgv
  have hT : ∀ w ∈ jT, w.before #[Value.ref b] s = true := fun w hw => hts w (List.mem_filter.mp hw).1
  obtain ⟨c0, i0, k0⟩ := u_known (C := RX0) (T := TX0) (N := 8) (n := 8) hT jW0 (hT _ itX0)
  obtain ⟨c1, i1, k1⟩ := u_known (C := RX1) (T := TX1) (N := 3) (n := 3) hT jW1 (hT _ itX1)
  obtain ⟨c2, i2, k2⟩ := u_known (C := RX2) (T := TX2) (N := 3) (n := 3) hT jW2 (hT _ itX2)
  obtain ⟨c3, i3, k3⟩ := u_known (C := RX3) (T := TX3) (N := 11) (n := 11) hT jW3 (hT _ itX3)
  obtain ⟨c4, i4, k4⟩ := u_known (C := RX4) (T := TX4) (N := 4) (n := 4) hT jW4 (hT _ itX4)
  obtain ⟨c5, i5, k5⟩ := u_known (C := RX5) (T := TX5) (N := 13) (n := 13) hT jW5 (hT _ itX5)
  obtain ⟨c6, i6, k6⟩ := u_known (C := RX6) (T := TX6) (N := 17) (n := 17) hT jW6 (hT _ itX6)
  obtain ⟨c7, i7, k7⟩ := u_known (C := RX7) (T := TX7) (N := 36) (n := 36) hT jW7 (hT _ itX7)
  obtain ⟨⟨l1, l2⟩, ⟨l3, l4, l5⟩, ⟨l6, l7⟩, l8, l9, l10⟩ := gv_ly
  obtain ⟨g1, g2, g3, g4, g5⟩ := gv_st
  have hao : jAO s := ⟨va_AO.of (hts _ l8), va_AO.of (hts _ l9), va_AO.of (hts _ l10)⟩
  obtain ⟨a8, b8, f8⟩ := arr_prim (hT _ ac_byte)
  obtain ⟨a9, b9, f9⟩ := arr_prim (hT _ ac_int)
  obtain ⟨a10, b10, f10⟩ := arr_prim (hT _ ac_boolean)
  obtain ⟨a14, b14, f14⟩ := arr_prim (hT _ ac_long)
  obtain ⟨a11, b11, f11⟩ := arr_obj hao.1
  obtain ⟨a12, b12, f12⟩ := arr_obj hao.2.1
  obtain ⟨a13, b13, f13⟩ := arr_obj hao.2.2
  have hA : ∀ a : Nat, a < s.heap.size → ¬ (fun q : Nat => s.heap.size ≤ q) a := fun a ha h => absurd ha (Nat.not_lt.mpr h)
  obtain ⟨adK, adV, hS1, hS2⟩ := vk_Sof (N := 15) (tm := jTm) (len := jSLen) (byt := jSB) (A := fun q : Nat => s.heap.size ≤ q) (by decide) (fun i hi => hf _ (gv_ex i hi)) (fun i hi => hf _ (gv_co i hi)) (fun i hi => hf _ (gv_ar i hi)) (fun i hi => hf _ (gv_le i hi)) (fun i hi j hj => hf _ (gv_el i hi j hj)) (fun i j hi hj hne => (gv_ne i hi j hj hne).imp (hf _) (hf _)) hA
  refine ⟨(l, s.heap.size, (fun k => [c0, c1, c2, c3, c4, c5, c6, c7].getD k c0, fun k => [i0, i1, i2, i3, i4, i5, i6, i7].getD k i0), fun k => [a8, a9, a10, a11, a12, a13, a14].getD (k - 8) a8, [], fun _ => 0, fun _ => 0, adK, adV), rfl, rfl, rfl, ⟨fun k q hq => ?_, fun k q hq => ?_⟩, ⟨fun w hw hn => ?_, ⟨hS1, fun q hq => ?_⟩, va_Zof (hts _ l1) (hts _ l2) (va_eqi (hf _ g1)) hA, vx_Zqof (hts _ l3) (hts _ l5) (hf _ g2) hA, vx_Zqof (hts _ l4) (hts _ l5) (hf _ g3) hA, va_Zqof (hts _ l6) (hts _ l7) (hf _ g4) hA, fun w hw hn => va_Nw.of (by simp only [Bool.and_eq_true] at hn; exact hn.1) (hts w hw)⟩, hao, va_Nc.of (hf _ g5)⟩
  · match k, hq with
    | 0, hq => cases hq; exact k0
    | 1, hq => cases hq; exact k1
    | 2, hq => cases hq; exact k2
    | 3, hq => cases hq; exact k3
    | 4, hq => cases hq; exact k4
    | 5, hq => cases hq; exact k5
    | 6, hq => cases hq; exact k6
    | 7, hq => cases hq; exact k7
    | k + 8, hq => simp [vwCl] at hq
  · match k, hq with
    | 0, hq => cases hq; exact ⟨b8, f8⟩
    | 1, hq => cases hq; exact ⟨b9, f9⟩
    | 2, hq => cases hq; exact ⟨b10, f10⟩
    | 3, hq => cases hq; exact ⟨b11, f11⟩
    | 4, hq => cases hq; exact ⟨b12, f12⟩
    | 5, hq => cases hq; exact ⟨b13, f13⟩
    | 6, hq => cases hq; exact ⟨b14, f14⟩
    | k + 7, hq => simp [jTys] at hq
  · cases w <;> first | exact va_Nw.of rfl (hts _ hw) | (simp [jNst] at hn)
  · obtain ⟨e1, e2, e3⟩ := gv_sr q hq
    refine vk_R.of (A := #[Value.ref b]) (hts _ e1) ?_
    rcases e3 with e | e
    · rw [e]; exact hS2 _ e2
    · exact eq_ref (hf _ e) (hS2 _ e2)
theorem whole_start {p : Program} {e : Env} {s : State} {m : MethodId} {below : List Frame} {meth : Method} {c : Code} (l : Launch) (hl : l.stackTraces = false) {b L : Nat} {xs : Nat → Int32} (hL : L ≤ 3072) (C0 : lw_At p s m meth c b L xs) : W p l e room_1 s m #[Value.ref b] below meth c s.heap [] 0 0 (lw_Z below #[Value.ref b] s) (entryFrame m ([Value.ref b] : List Value).toArray 7) := by
  obtain ⟨E, e1, e2, e3, hK, hjX, hao, hnc⟩ := law_world l C0
  obtain ⟨hx, hb, hr, hml, hown, hts, hX, hbl, hlocks, hgv⟩ := C0
  subst e1
  have hT : ∀ w ∈ jT, w.before #[Value.ref b] s = true := fun w hw => hts w (List.mem_filter.mp hw).1
  have hll := lv_entry ([.ref b]) (n := 7) (Nat.le_of_ble_eq_true rfl)
  rw [lg_entry_eq]
  generalize (lg_sl ([.ref b]) ++ List.replicate (7 - (lg_sl ([.ref b])).length) Slot.unset).toArray = la at hll ⊢
  refine W_go (N := lwN b L xs s.heap.size #[Value.ref b] s) ⟨rfl, hX, hbl, rfl, hao, hnc⟩ ?_
  refine law_body (I := fun _ _ => 0) (P := fun _ _ => none) hl e2 hL p e s m #[Value.ref b] below meth c s.heap [] la ⟨hx, hb, hr, hml, hown, hT, hlocks, hK, hjX, Nat.le_of_eq e2⟩ ⟨?_, ?_, fun _ _ => jR0⟩ va_S.rf ⟨⟨hll.1, hll.2.1, ?_⟩, rfl, ?_⟩ ?_ trivial
  · intro k q hq
    unfold jPool at hq
    rw [e3] at hq
    simp [va_pl] at hq
  · unfold jPool
    rw [e3]
    exact ⟨fun i j p q h => by simp [va_pl] at h, fun k q h => by simp [va_pl] at h⟩
  · rintro ⟨j, w⟩ hq
    obtain ⟨v, h1, rfl⟩ := jLl_mem.mp hq
    have : j = 0 ∧ v = jp b := by
      match j, h1 with
      | 0, h1 => exact ⟨rfl, by cases h1; rfl⟩
      | 1, h1 => cases h1
      | 2, h1 => cases h1
      | 3, h1 => cases h1
      | 4, h1 => cases h1
      | 5, h1 => cases h1
      | 6, h1 => cases h1
      | j + 7, h1 => simp at h1
    obtain ⟨rfl, rfl⟩ := this
    exact hll.2.2 (0, .ref b) List.mem_cons_self
  · intro i v h1
    match i, h1 with
    | 0, h1 => cases h1; rfl
    | 1, h1 => cases h1
    | 2, h1 => cases h1
    | 3, h1 => cases h1
    | 4, h1 => cases h1
    | 5, h1 => cases h1
    | 6, h1 => cases h1
    | i + 7, h1 => simp at h1
  · intro i v h1
    match i, h1 with
    | 0, h1 => cases h1; trivial
    | 1, h1 => cases h1
    | 2, h1 => cases h1
    | 3, h1 => cases h1
    | 4, h1 => cases h1
    | 5, h1 => cases h1
    | 6, h1 => cases h1
    | i + 7, h1 => simp at h1
end JEnt
