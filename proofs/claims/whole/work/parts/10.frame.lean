/-! The judgement of the proofs: numbers are whole numbers in range, references are addresses, the memory is two functions of (address, place). -/
section JFA
abbrev jV : Type := Int ⊕ (Option Nat ⊕ Int)
abbrev jI : Type := Nat → Nat → Int
abbrev jP : Type := Nat → Nat → Option Nat
abbrev ji (n : Int) : jV := .inl n
abbrev jq (r : Option Nat) : jV := .inr (.inl r)
abbrev jp (a : Nat) : jV := .inr (.inl (some a))
abbrev jlo (n : Int) : jV := .inr (.inr n)
def jc (v : jV) : Value := match v with
  | .inl n => .int (Int32.ofInt n)
  | .inr (.inl r) => va_rf r
  | .inr (.inr n) => .long (Int64.ofInt n)
abbrev jR (n : Int) : Prop := -2147483648 ≤ n ∧ n ≤ 2147483647
def jRv (v : jV) : Prop := match v with
  | .inl n => jR n
  | .inr (.inl _) => True
  | .inr (.inr n) => jR n
def jRs : List jV → Prop
  | [] => True
  | v :: t => jRv v ∧ jRs t
def jRl (ls : List (Option jV)) : Prop := ∀ (i : Nat) (v : jV), ls[i]? = some (some v) → jRv v
def jRI (I : jI) : Prop := ∀ a k, jR (I a k)
def jput (I : jI) (a k : Nat) (v : Int) : jI := fun b j => if b = a ∧ j = k then v else I b j
def jputP (P : jP) (a k : Nat) (v : Option Nat) : jP := fun b j => if b = a ∧ j = k then v else P b j
abbrev jE : Type := Launch × Nat × va_G × (Nat → ClassId) × List Nat × (Nat → Nat) × (Nat → Nat) × (Nat → Nat) × (Nat → Nat)
def eX (E : jE) : Launch := E.1
def eZ (E : jE) : Nat := E.2.1
def eD (E : jE) : va_G := E.2.2.1
def eCy (E : jE) : Nat → ClassId := E.2.2.2.1
def eL (E : jE) : List Nat := E.2.2.2.2.1
def eK (E : jE) : Nat → Nat := E.2.2.2.2.2.1
def eN (E : jE) : Nat → Nat := E.2.2.2.2.2.2.1
def eSk (E : jE) : Nat → Nat := E.2.2.2.2.2.2.2.1
def eSv (E : jE) : Nat → Nat := E.2.2.2.2.2.2.2.2
def jA (E : jE) : Nat → Prop := fun q => eZ E ≤ q
def jTy (ci : Nat) : Nat → FieldType := match ci with
  | 0 => tyX0
  | 1 => tyX1
  | 2 => tyX2
  | 3 => tyX3
  | 4 => tyX4
  | 5 => tyX5
  | 6 => tyX6
  | _ => tyX7
def jIsR (t : FieldType) : Bool := match t with
  | .object _ => true
  | .array _ => true
  | _ => false
def jNF (ci : Nat) : Nat := match ci with
  | 0 => 8
  | 1 => 3
  | 2 => 3
  | 3 => 11
  | 4 => 4
  | 5 => 13
  | 6 => 17
  | _ => 36
def jFv (ci a : Nat) (I : jI) (P : jP) (k : Nat) : Value := if jIsR (jTy ci k) = true then va_rf (P a k) else .int (Int32.ofInt (I a k))
def jFs (ci a : Nat) (I : jI) (P : jP) : List Value := (List.range (jNF ci)).map (jFv ci a I P)
def jCell (E : jE) (I : jI) (P : jP) (a : Nat) : va_E :=
  if eK E a < 8 then .inr (eK E a, jFs (eK E a) a I P)
  else if eK E a < 11 then .inl (eCy E (eK E a), eN E a, .inl (fun j => Int32.ofInt (I a j)))
  else if eK E a < 14 then .inl (eCy E (eK E a), eN E a, .inr (.inr (.inr (.inr (fun j => P a j)))))
  else .inl (eCy E (eK E a), eN E a, .inr (.inl (fun j => Int64.ofInt (I a j))))
def jTys (E : jE) : List (ClassId × FieldType) := [(eCy E 8, .byte), (eCy E 9, .int), (eCy E 10, .boolean), (eCy E 11, .object RX0), (eCy E 12, .object RX4), (eCy E 13, .object RX5), (eCy E 14, .long)]
def jPool (E : jE) (I : jI) (P : jP) : va_W := va_pl (eL E) (jCell E I P)
def jHp (E : jE) (I : jI) (P : jP) (H : Heap) : Prop := va_P (eD E) vwCl (jPool E I P) H ∧ va_D (jA E) (jPool E I P) ∧ jRI I
def jT : List Cond := lw_tbl.filter goodWord
def jNst (w : Cond) : Bool := match w with
  | .fieldLinkNest _ _ _ _ _ _ => true
  | .methodLinkNest _ _ _ _ => true
  | _ => false
/-- the texts of the constants, by their numbers -/
def jTx : List String := ["if", "else", "while", "call", "=+-<(){},;", "{", "(", "}", ")", "+", "-", "<", ",", ";", "="]
def jSLen : List Nat := [2, 4, 5, 4, 10, 1, 1, 1, 1, 1, 1, 1, 1, 1, 1]
def jSB : List (List Int32) := [[105, 102], [101, 108, 115, 101], [119, 104, 105, 108, 101], [99, 97, 108, 108], [61, 43, 45, 60, 40, 41, 123, 125, 44, 59], [123], [40], [125], [41], [43], [45], [60], [44], [59], [61]]
/-- class, entry, number of its text -/
def jSR : List (String × Nat × Nat) := [(RX6, 261, 0), (RX6, 267, 1), (RX6, 269, 2), (RX6, 271, 3), (RX7, 130, 0), (RX7, 136, 1), (RX7, 138, 2), (RX7, 140, 3), (RX7, 111, 4), (RX7, 149, 5), (RX7, 151, 6), (RX7, 156, 7), (RX7, 161, 8), (RX7, 182, 9), (RX7, 184, 10), (RX7, 186, 11), (RX7, 194, 12), (RX7, 196, 13), (RX7, 203, 14)]
/-- what stands beside the pool, and no call changes -/
def jX (E : jE) (U : State) (H : Heap) : Prop :=
  (∀ w ∈ lw_tbl, jNst w = true → va_Nw w U) ∧
  (vk_S 15 jSLen jSB (eSk E) (eSv E) (jA E) U H ∧ ∀ q ∈ jSR, vk_R q.1 q.2.1 (jTx.getD q.2.2 "") (eSk E q.2.2) U) ∧
  va_Z "java/lang/String" "COMPACT_STRINGS" "Z" (.int 1) (jA E) U H ∧
  vx_Zq Bundle.tN "UNASSIGNED_STACK" Bundle.steD (jA E) U H ∧ vx_Zq Bundle.tN "SUPPRESSED_SENTINEL" Bundle.listD (jA E) U H ∧ va_Zq "jdk/internal/util/Preconditions" "SIOOBE_FORMATTER" "Ljava/util/function/BiFunction;" (jA E) U H ∧ (∀ w ∈ lw_tbl, (w.onTables && w.keepsFace) = true → va_Nw w U)
def jWld (E : jE) (I : jI) (P : jP) (U : State) : Prop := eZ E ≤ U.heap.size ∧ jHp E I P U.heap ∧ va_K (eD E) vwCl (jTys E) U ∧ jX E U U.heap
def jLl (ls : List (Option jV)) : List (Nat × Value) := (List.range ls.length).filterMap (fun i => (ls.getD i none).map (fun v => (i, jc v)))
def jLoc (la : Array Slot) (nL : Nat) (ls : List (Option jV)) : Prop := lv_has la nL (jLl ls) ∧ ls.length = nL ∧ ∀ (i : Nat) (v : jV), ls[i]? = some (some v) → (jc v).category = 1
def jCtx (E : jE) (own : String) (cc : ByteArray) (nL : Nat) (rt : Option FieldType) (p : Program) (s : State) (m : MethodId) (args : Array Value) (meth : Method) (c : Code) : Prop :=
  p.tables.exec = Jvm.exec ∧ c.code = cc ∧ meth.sig.returnType = rt ∧ c.maxLocals = nL ∧ s.vm.findClass own = some m.cls ∧ (∀ w ∈ jT, w.before args s = true) ∧ meth.locks = false ∧ va_K (eD E) vwCl (jTys E) s ∧ jX E s s.heap ∧ eZ E ≤ s.heap.size
/-- the machine, at pc of a method of E's system, with these locals, this stack, this memory, comes to an end that Z names -/
def jJ (E : jE) (own : String) (cc : ByteArray) (nL : Nat) (rt : Option FieldType) (R : Room) (Z : Code → List Frame → Array Value → State → State → Prop) (cells slots pc : Nat) (ls : List (Option jV)) (st : List jV) (I : jI) (P : jP) : Prop :=
  ∀ (p : Program) (e : Env) (s : State) (m : MethodId) (args : Array Value) (below : List Frame) (meth : Method) (c : Code) (H : Heap) (locs : List Loc) (la : Array Slot),
    jCtx E own cc nL rt p s m args meth c → jHp E I P H → va_S (jA E) s.heap H locs → jLoc la nL ls → jRl ls → jRs st →
    W p (eX E) e R s m args below meth c H locs cells slots (Z c below args s) (F0 m pc la (st.map jc))
end JFA
section JFB
theorem j32 {n : Int} (h : jR n) : (Int32.ofInt n).toInt = n := Int32.toInt_ofInt_of_le (by have := h.1; omega) (by have := h.2; omega)
theorem jR32 (x : Int32) : jR x.toInt := ⟨by have := x.le_toInt; omega, by have := x.toInt_lt; omega⟩
theorem j32_lt {a b : Int} (ha : jR a) (hb : jR b) : Int32.ofInt a < Int32.ofInt b ↔ a < b := by rw [Int32.lt_iff_toInt_lt, j32 ha, j32 hb]
theorem j32_le {a b : Int} (ha : jR a) (hb : jR b) : Int32.ofInt a ≤ Int32.ofInt b ↔ a ≤ b := by rw [Int32.le_iff_toInt_le, j32 ha, j32 hb]
theorem j32_eq {a b : Int} (ha : jR a) (hb : jR b) : Int32.ofInt a = Int32.ofInt b ↔ a = b := by rw [← Int32.toInt_inj, j32 ha, j32 hb]
theorem j32_0 : Int32.ofInt 0 = 0 := by decide
theorem jR0 : jR 0 := ⟨by decide, by decide⟩
theorem j32_lt0 {a : Int} (ha : jR a) : Int32.ofInt a < 0 ↔ a < 0 := by rw [← j32_0]; exact j32_lt ha jR0
theorem j32_le0 {a : Int} (ha : jR a) : Int32.ofInt a ≤ 0 ↔ a ≤ 0 := by rw [← j32_0]; exact j32_le ha jR0
theorem j32_0le {a : Int} (ha : jR a) : 0 ≤ Int32.ofInt a ↔ 0 ≤ a := by rw [← j32_0]; exact j32_le jR0 ha
theorem j32_0lt {a : Int} (ha : jR a) : 0 < Int32.ofInt a ↔ 0 < a := by rw [← j32_0]; exact j32_lt jR0 ha
theorem j32_eq0 {a : Int} (ha : jR a) : Int32.ofInt a = 0 ↔ a = 0 := by rw [← j32_0]; exact j32_eq ha jR0
theorem j32_clamp {a : Int} (ha : jR a) (h0 : 0 ≤ a) : (Int32.ofInt a).toNatClampNeg = a.toNat := by
  show (Int32.ofInt a).toInt.toNat = a.toNat
  rw [j32 ha]
theorem jin {a : Int} {n : Nat} (ha : jR a) (h0 : 0 ≤ a) (h1 : a < n) : vp_in (Int32.ofInt a) n := by
  rw [vp_in_iff, j32 ha]; exact ⟨h0, h1⟩
theorem jput_s (I : jI) (a k : Nat) (v : Int) : jput I a k v a k = v := by simp [jput]
theorem jput_a (I : jI) {a b k j : Nat} {v : Int} (h : b ≠ a) : jput I a k v b j = I b j := by simp [jput, h]
theorem jput_k (I : jI) {a b k j : Nat} {v : Int} (h : j ≠ k) : jput I a k v b j = I b j := by simp [jput, h]
theorem jRI_put {I : jI} {a k : Nat} {v : Int} (h : jRI I) (hv : jR v) : jRI (jput I a k v) := by
  intro b j
  unfold jput
  split
  · exact hv
  · exact h b j
theorem jLl_mem {ls : List (Option jV)} {j : Nat} {w : Value} : (j, w) ∈ jLl ls ↔ ∃ v, ls[j]? = some (some v) ∧ w = jc v := by
  unfold jLl
  simp only [List.mem_filterMap, List.mem_range, Option.map_eq_some_iff, List.getD_eq_getElem?_getD]
  constructor
  · rintro ⟨i, hi, v, h1, h2⟩
    cases h2
    refine ⟨v, ?_, rfl⟩
    rw [List.getElem?_eq_getElem hi] at h1 ⊢
    simpa using h1
  · rintro ⟨v, h1, rfl⟩
    have hj := (List.getElem?_eq_some_iff.mp h1).1
    exact ⟨j, hj, v, by rw [h1]; rfl, rfl⟩
theorem jLoc.at {la : Array Slot} {nL : Nat} {ls : List (Option jV)} (h : jLoc la nL ls) {i : Nat} {v : jV} (hi : ls[i]? = some (some v)) : la[i]? = some (.val (jc v)) := h.1.2.2 (i, jc v) (jLl_mem.mpr ⟨v, hi, rfl⟩)
theorem jLoc.size {la : Array Slot} {nL : Nat} {ls : List (Option jV)} (h : jLoc la nL ls) : la.size = nL := h.1.1
theorem jLoc.set {la la' : Array Slot} {nL : Nat} {ls : List (Option jV)} {i : Nat} {v : jV} (h : jLoc la nL ls) (hv : (jc v).category = 1)
    (h2 : lv_has la' nL ((i, jc v) :: (jLl ls).filter (fun q => !(q.1 == i) && !(q.1 + 1 == i && q.2.category == 2)))) : jLoc la' nL (ls.set i (some v)) := by
  refine ⟨⟨h2.1, h2.2.1, ?_⟩, by rw [List.length_set]; exact h.2.1, ?_⟩
  · rintro ⟨j, w⟩ hq
    obtain ⟨u, h3, rfl⟩ := jLl_mem.mp hq
    by_cases hj : i = j
    · subst hj
      have hl := (List.getElem?_eq_some_iff.mp h3).1
      rw [List.length_set] at hl
      rw [List.getElem?_set_self hl] at h3
      cases h3
      exact h2.2.2 _ List.mem_cons_self
    · rw [List.getElem?_set_ne hj] at h3
      refine h2.2.2 _ (List.mem_cons_of_mem _ (List.mem_filter.mpr ⟨jLl_mem.mpr ⟨u, h3, rfl⟩, ?_⟩))
      have hc := h.2.2 j u h3
      simp [hc, Ne.symm hj]
  · intro j u h3
    by_cases hj : i = j
    · subst hj
      have hl := (List.getElem?_eq_some_iff.mp h3).1
      rw [List.length_set] at hl
      rw [List.getElem?_set_self hl] at h3
      cases h3
      exact hv
    · rw [List.getElem?_set_ne hj] at h3
      exact h.2.2 j u h3
theorem jRl.set {ls : List (Option jV)} {i : Nat} {v : jV} (h : jRl ls) (hv : jRv v) : jRl (ls.set i (some v)) := by
  intro j u h3
  by_cases hj : i = j
  · subst hj
    have hl := (List.getElem?_eq_some_iff.mp h3).1
    rw [List.length_set] at hl
    rw [List.getElem?_set_self hl] at h3
    cases h3
    exact hv
  · rw [List.getElem?_set_ne hj] at h3
    exact h j u h3
end JFB
