section JSb
/-- the class's objects in the order of making: kinds, lengths, what lies in their places, in h's fields, and the numbers -/
def KD (i : Nat) : Nat := if i < 21 then [8, 13, 5, 8, 9, 9, 9, 9, 9, 9, 9, 3, 9, 12, 11, 2, 8, 1, 8, 9, 9].getD i 0 else if i < 129 then (if (i - 21) % 9 = 0 then 5 else if (i - 21) % 9 = 1 then 8 else 9) else (if (i - 129) % 4 = 0 then 4 else if (i - 129) % 4 = 3 then 0 else 9)
def LN (i : Nat) : Nat := if i < 21 then [800, 12, 0, 800, 200, 200, 200, 200, 200, 200, 200, 0, 6, 16, 16, 0, 2000, 0, 32, 200, 200].getD i 0 else if i < 129 then (if (i - 21) % 9 = 0 then 0 else if (i - 21) % 9 = 1 then 800 else 200) else (if (i - 129) % 4 = 0 then 0 else if (i - 129) % 4 = 1 then 3 else if (i - 129) % 4 = 2 then 300 else 0)
def PT (i k : Nat) : Option Nat :=
  if i < 21 then
    (if i = 1 then (if k < 12 then some (21 + 9 * k) else none) else if i = 2 then (if k < 8 then some (2 + 1 + k) else none) else if i = 11 then (if k < 1 then some (11 + 1 + k) else none) else if i = 13 then (if k < 16 then some (129 + 4 * k) else none) else if i = 14 then (if k < 16 then some (132 + 4 * k) else none) else if i = 15 then (if k < 1 then some (15 + 1 + k) else none) else if i = 17 then (if k < 1 then some (17 + 1 + k) else none) else none)
  else if i < 129 then (if (i - 21) % 9 = 0 then (if k < 8 then some (i + 1 + k) else none) else none)
  else (if (i - 129) % 4 = 0 then (if k < 2 then some (i + 1 + k) else none) else none)
def PH (k : Nat) : Option Nat := if k = 0 then some 0 else if k = 2 then some 1 else if k = 3 then some 2 else if k = 4 then some 11 else if k = 9 then some 13 else if k = 10 then some 14 else if k = 12 then some 15 else if k = 14 then some 17 else if k = 15 then some 19 else if k = 16 then some 20 else none
def IV (i k : Nat) : Int := if i = 11 ∧ k = 7 then -1 else 0
def fl (n : Nat) (o : Option Nat) : Option Nat := o.bind (fun j => if j < n then some j else none)
theorem fl_some {n j : Nat} {o : Option Nat} (h : o = some j) : fl n o = if j < n then some j else none := by rw [h]; rfl
theorem fl_none {n : Nat} {o : Option Nat} (h : o = none) : fl n o = none := by rw [h]; rfl
theorem fl_eq {n m : Nat} {o : Option Nat} (h : ∀ j, o = some j → j < n ∨ m ≤ j) (hnm : n ≤ m) : fl m o = fl n o := by
  cases o with
  | none => rfl
  | some j =>
    rw [fl_some rfl, fl_some rfl]
    rcases h j rfl with g | g
    · rw [if_pos (by omega), if_pos g]
    · rw [if_neg (by omega), if_neg (by omega)]
theorem PT_inv {i k j : Nat} (h : PT i k = some j) : (i = 1 ∧ j = 21 + 9 * k ∧ k < 12) ∨ (i = 2 ∧ j = 3 + k ∧ k < 8) ∨ (i = 11 ∧ k = 0 ∧ j = 12) ∨ (i = 13 ∧ j = 129 + 4 * k ∧ k < 16) ∨ (i = 14 ∧ j = 132 + 4 * k ∧ k < 16) ∨ (i = 15 ∧ k = 0 ∧ j = 16) ∨ (i = 17 ∧ k = 0 ∧ j = 18) ∨ (21 ≤ i ∧ i < 129 ∧ (i - 21) % 9 = 0 ∧ k < 8 ∧ j = i + 1 + k) ∨ (129 ≤ i ∧ (i - 129) % 4 = 0 ∧ k < 2 ∧ j = i + 1 + k) := by
  unfold PT at h
  repeat' split at h
  all_goals first | cases h; done | (have h' := Option.some.inj h; omega)
theorem PH_inv {k j : Nat} (h : PH k = some j) : (k = 0 ∧ j = 0) ∨ (k = 2 ∧ j = 1) ∨ (k = 3 ∧ j = 2) ∨ (k = 4 ∧ j = 11) ∨ (k = 9 ∧ j = 13) ∨ (k = 10 ∧ j = 14) ∨ (k = 12 ∧ j = 15) ∨ (k = 14 ∧ j = 17) ∨ (k = 15 ∧ j = 19) ∨ (k = 16 ∧ j = 20) := by
  unfold PH at h
  repeat' split at h
  all_goals first | cases h; done | (have h' := Option.some.inj h; omega)
variable {E E0 E' : jE} {I I0 I1 I' : jI} {P P0 P' : jP} {h n : Nat} {g kd ln kd' ln' : Nat → Nat} {pt pt' : Nat → Nat → Option Nat} {ph ph' : Nat → Option Nat} {ih : Nat → Int} {iv iv' : Nat → Nat → Int}
theorem SA.cg (hS : SA E0 I0 P0 h g n kd ln pt ph ih iv E I P) (h1 : ∀ i, i < n → kd i = kd' i ∧ ln i = ln' i) (h2 : ∀ i, i < n → ∀ k, pt i k = pt' i k) (h3 : ∀ k, ph k = ph' k) (h4 : ∀ i, i < n → kd i ≠ 0 → ∀ k, iv i k = iv' i k) : SA E0 I0 P0 h g n kd' ln' pt' ph' ih iv' E I P := by
  obtain ⟨a1, a2, a3, a4, a5, a6, a7, a8, a9, a10, a11⟩ := hS
  refine ⟨a1, a2, a3, a4, a5, a6, fun i hi => ?_, fun i hi k => ?_, fun k => ?_, a10, fun i hi hk k => ?_⟩
  · rw [← (h1 i hi).1, ← (h1 i hi).2]; exact a7 i hi
  · rw [← h2 i hi k]; exact a8 i hi k
  · rw [← h3 k]; exact a9 k
  · rw [← (h1 i hi).1] at hk; rw [← h4 i hi hk]; exact a11 i hi hk k
/-- the first n are made and put where they belong -/
def SB (E0 : jE) (I0 : jI) (P0 : jP) (h n : Nat) (g : Nat → Nat) (ih : Nat → Int) (E : jE) (I : jI) (P : jP) : Prop := SA E0 I0 P0 h g n KD LN (fun i k => fl n (PT i k)) (fun k => fl n (PH k)) ih IV E I P
/-- the next is made, with its m rows, and is put nowhere yet -/
def SM (E0 : jE) (I0 : jI) (P0 : jP) (h n m : Nat) (g : Nat → Nat) (ih : Nat → Int) (E : jE) (I : jI) (P : jP) : Prop := SA E0 I0 P0 h g (n + 1 + m) KD LN (fun i k => if i < n then fl n (PT i k) else fl (n + 1 + m) (PT i k)) (fun k => fl n (PH k)) ih IV E I P
theorem SB.mk {m r : Nat} {rk rl q : Nat → Nat} (hS : SB E0 I0 P0 h n g ih E I P) (hr : r ∉ eL E) (hR : RM (fun _ _ => 0) (eAdd E r (KD n) (LN n)) I1 (zP P r) r ((List.range m).map (fun k => (k, rk k, rl k, q k))) E' I' P') (hI : ∀ a, a ≠ r → I1 a = zI I r a) (hI0 : KD n ≠ 0 → ∀ k, I1 r k = IV n k) (hrow : ∀ k, k < m → KD (n + 1 + k) = rk k ∧ LN (n + 1 + k) = rl k ∧ (∀ j, PT (n + 1 + k) j = none) ∧ ∀ j, IV (n + 1 + k) j = 0) (hPn : ∀ k, PT n k = if k < m then some (n + 1 + k) else none) :
    ∃ g', g' n = r ∧ (∀ i, i < n → g' i = g i) ∧ SM E0 I0 P0 h n m g' ih E' I' P' := by
  have h1 := SA.add (k := KD n) (l := LN n) hS hr
  have hgn : va_up g n r n = r := va_up_self _ _ _
  have h2 := SA.rm (i0 := n) (ih0 := I1 r) (I1 := I1) (rk := rk) (rl := rl) (q := q) (m := m) h1 (Nat.lt_succ_self n) (by rw [hgn]; exact hR) (fun a ha => by rw [hgn] at ha; exact hI a ha) (fun k => by rw [hgn])
  refine ⟨_, ?_, fun i hi => ?_, h2.cg (fun i hi => ?_) (fun i hi k => ?_) (fun k => rfl) (fun i hi hk k => ?_)⟩
  · show (if n < n + 1 then va_up g n r n else q (n - (n + 1))) = r
    rw [if_pos (Nat.lt_succ_self n), hgn]
  · show (if i < n + 1 then va_up g n r i else q (i - (n + 1))) = g i
    rw [if_pos (by omega), va_up_ne _ _ (by omega)]
  · show (if i < n + 1 then va_up KD n (KD n) i else rk (i - (n + 1))) = KD i ∧ (if i < n + 1 then va_up LN n (LN n) i else rl (i - (n + 1))) = LN i
    by_cases z : i < n + 1
    · rw [if_pos z, if_pos z]
      by_cases y : i = n
      · rw [y, va_up_self, va_up_self]; exact ⟨rfl, rfl⟩
      · rw [va_up_ne _ _ y, va_up_ne _ _ y]; exact ⟨rfl, rfl⟩
    · rw [if_neg z, if_neg z]
      obtain ⟨f1, f2, -⟩ := hrow (i - (n + 1)) (by omega)
      rw [← f1, ← f2, show n + 1 + (i - (n + 1)) = i by omega]
      exact ⟨rfl, rfl⟩
  · show (if i = n then (if k < m then some (n + 1 + k) else va_up (fun i k => fl n (PT i k)) n (fun _ => none) n k) else if i < n + 1 then va_up (fun i k => fl n (PT i k)) n (fun _ => none) i k else none) = if i < n then fl n (PT i k) else fl (n + 1 + m) (PT i k)
    by_cases y : i = n
    · rw [y, if_pos rfl, if_neg (Nat.lt_irrefl n), va_up_self, hPn k]
      by_cases z : k < m
      · rw [if_pos z, fl_some rfl, if_pos (by omega)]
      · rw [if_neg z]; rfl
    · rw [if_neg y]
      by_cases z : i < n
      · rw [if_pos (by omega), if_pos z, va_up_ne _ _ y]
      · rw [if_neg (by omega), if_neg z]
        obtain ⟨-, -, f3, -⟩ := hrow (i - (n + 1)) (by omega)
        rw [show n + 1 + (i - (n + 1)) = i by omega] at f3
        rw [f3 k]; rfl
  · show (if i = n then I1 r k else if i < n + 1 then va_up IV n (fun _ => 0) i k else 0) = IV i k
    have hk' : (if i < n + 1 then va_up KD n (KD n) i else rk (i - (n + 1))) ≠ 0 := hk
    by_cases y : i = n
    · rw [if_pos y, y]
      rw [y, if_pos (Nat.lt_succ_self n), va_up_self] at hk'
      exact hI0 hk' k
    · rw [if_neg y]
      by_cases z : i < n
      · rw [if_pos (by omega), va_up_ne _ _ y]
      · rw [if_neg (by omega)]
        obtain ⟨-, -, -, f4⟩ := hrow (i - (n + 1)) (by omega)
        rw [show n + 1 + (i - (n + 1)) = i by omega] at f4
        exact (f4 k).symm
theorem SM.puth {m k0 : Nat} (hS : SM E0 I0 P0 h n m g ih E I P) (h0 : PH k0 = some n) (h1 : ∀ k j, PH k = some j → k = k0 ∨ j < n ∨ n + 1 + m ≤ j) (h2 : ∀ i k j, i < n → PT i k = some j → j < n ∨ n + 1 + m ≤ j) : SB E0 I0 P0 h (n + 1 + m) g ih E I (jputP P h k0 (some (g n))) := by
  refine SA.cg (SA.puth (k := k0) (j := n) hS (by omega)) (fun i _ => ⟨rfl, rfl⟩) (fun i hi k => ?_) (fun k => ?_) (fun i _ _ k => rfl)
  · show (if i < n then fl n (PT i k) else fl (n + 1 + m) (PT i k)) = fl (n + 1 + m) (PT i k)
    split
    · rename_i z
      exact (fl_eq (fun j hj => h2 i k j z hj) (by omega)).symm
    · rfl
  · by_cases z : k = k0
    · rw [z, va_up_self, fl_some h0, if_pos (by omega)]
    · rw [va_up_ne _ _ z]
      exact (fl_eq (fun j hj => (h1 k j hj).resolve_left z) (by omega)).symm
theorem SM.putp {m i0 k0 : Nat} (hS : SM E0 I0 P0 h n m g ih E I P) (hi : i0 < n) (h0 : PT i0 k0 = some n) (h1 : ∀ k j, PH k = some j → j < n ∨ n + 1 + m ≤ j) (h2 : ∀ i k j, i < n → PT i k = some j → (i = i0 ∧ k = k0) ∨ j < n ∨ n + 1 + m ≤ j) : SB E0 I0 P0 h (n + 1 + m) g ih E I (jputP P (g i0) k0 (some (g n))) := by
  refine SA.cg (SA.putp (i := i0) (k := k0) (j := n) hS (by omega) (by omega)) (fun i _ => ⟨rfl, rfl⟩) (fun i hi' k => ?_) (fun k => (fl_eq (fun j hj => h1 k j hj) (by omega)).symm) (fun i _ _ k => rfl)
  have e0 : ∀ i k, ¬ (i = i0 ∧ k = k0) → (if i < n then fl n (PT i k) else fl (n + 1 + m) (PT i k)) = fl (n + 1 + m) (PT i k) := fun i k hne => by
    split
    · rename_i z
      exact (fl_eq (fun j hj => (h2 i k j z hj).resolve_left hne) (by omega)).symm
    · rfl
  by_cases z : i = i0
  · rw [z, va_up_self]
    by_cases y : k = k0
    · rw [y, va_up_self, fl_some h0, if_pos (by omega)]
    · rw [va_up_ne _ _ y]
      exact e0 i0 k (fun w => y w.2)
  · rw [va_up_ne _ _ z]
    exact e0 i k (fun w => z w.1)
theorem SB.puti {k : Nat} {v : Int} (hS : SB E0 I0 P0 h n g ih E I P) : SB E0 I0 P0 h n g (va_up ih k v) E (jput I h k v) P := SA.puti hS
/-- an array is made -/
theorem SB.arr {r : Nat} (hS : SB E0 I0 P0 h n g ih E I P) (hr : r ∉ eL E) (hP : ∀ k, PT n k = none ∨ ∃ j, PT n k = some j ∧ n + 1 ≤ j) (hI : ∀ k, IV n k = 0) : ∃ g', g' n = r ∧ (∀ i, i < n → g' i = g i) ∧ SM E0 I0 P0 h n 0 g' ih (eAdd E r (KD n) (LN n)) (zI I r) (zP P r) := by
  have h1 := SA.add (k := KD n) (l := LN n) hS hr
  refine ⟨_, va_up_self _ _ _, fun i hi => va_up_ne _ _ (by omega), h1.cg (fun i hi => ?_) (fun i hi k => ?_) (fun k => rfl) (fun i hi hk k => ?_)⟩
  · by_cases y : i = n
    · rw [y, va_up_self, va_up_self]; exact ⟨rfl, rfl⟩
    · rw [va_up_ne _ _ y, va_up_ne _ _ y]; exact ⟨rfl, rfl⟩
  · by_cases y : i = n
    · rw [y, va_up_self, if_neg (Nat.lt_irrefl n)]
      rcases hP k with f | ⟨j, f, f'⟩
      · rw [f]; rfl
      · rw [fl_some f, if_neg (by omega)]
    · rw [va_up_ne _ _ y, if_pos (by omega)]
  · by_cases y : i = n
    · rw [y, va_up_self]; exact (hI k).symm
    · rw [va_up_ne _ _ y]
theorem SB.kh (hS : SB E0 I0 P0 h n g ih E I P) (hk : eK E0 h = 6) : jK E 6 h := ⟨by rw [hS.2.2.1]; exact List.mem_append_left _ hS.2.1, ((hS.2.2.2.2.2.1 h hS.2.1).1).trans hk⟩
theorem SM.kh {m : Nat} (hS : SM E0 I0 P0 h n m g ih E I P) (hk : eK E0 h = 6) : jK E 6 h := ⟨by rw [hS.2.2.1]; exact List.mem_append_left _ hS.2.1, ((hS.2.2.2.2.2.1 h hS.2.1).1).trans hk⟩
end JSb
