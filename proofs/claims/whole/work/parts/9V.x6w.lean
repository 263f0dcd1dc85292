section JX6w
variable {E E0 E' : jE} {I I0 I1 I' : jI} {P P0 P' : jP} {h n d : Nat} {g : Nat → Nat} {ih : Nat → Int} {A : State → Prop}
variable {own : String} {cc : ByteArray} {nL : Nat} {rt : Option FieldType} {R : Room} {Z : Code → List Frame → Array Value → State → State → Prop} {cs ss pc : Nat} {ls : List (Option jV)} {st : List jV}
theorem SM.kd {m i : Nat} (hS : SM E0 I0 P0 h n m g ih E I P) (hi : i < n + 1 + m) : g i ∈ eL E ∧ eK E (g i) = KD i ∧ eN E (g i) = LN i := ⟨(SA.hh hS hi).2, hS.2.2.2.2.2.2.1 i hi⟩
theorem SB.kd {i : Nat} (hS : SB E0 I0 P0 h n g ih E I P) (hi : i < n) : g i ∈ eL E ∧ eK E (g i) = KD i ∧ eN E (g i) = LN i := ⟨(SA.hh hS hi).2, hS.2.2.2.2.2.2.1 i hi⟩
theorem SB.hp {k j : Nat} (hS : SB E0 I0 P0 h n g ih E I P) (hk : PH k = some j) (hj : j < n) : P h k = some (g j) := by
  have e : P h k = (fl n (PH k)).map g := (hS.2.2.2.2.2.2.2.2.1 k).1
  rw [fl_some hk, if_pos hj] at e
  exact e
theorem SB.pp {i k j : Nat} (hS : SB E0 I0 P0 h n g ih E I P) (hk : PT i k = some j) (hi : i < n) (hj : j < n) : P (g i) k = some (g j) := by
  have e : P (g i) k = (fl n (PT i k)).map g := (hS.2.2.2.2.2.2.2.1 i hi k).1
  rw [fl_some hk, if_pos hj] at e
  exact e
theorem jJ_cs {cs' ss' : Nat} (h1 : cs = cs') (h2 : ss = ss') (k : jJ E own cc nL rt R Z cs' ss' pc ls st I P) : jJ E own cc nL rt R Z cs ss pc ls st I P := by subst h1; subst h2; exact k
theorem SB.arr' {r k l : Nat} (hS : SB E0 I0 P0 h n g ih E I P) (hr : r ∉ eL E) (hk : KD n = k) (hl : LN n = l) (hP : ∀ k, PT n k = none ∨ ∃ j, PT n k = some j ∧ n + 1 ≤ j) (hI : n ≠ 11) : ∃ g', g' n = r ∧ (∀ i, i < n → g' i = g i) ∧ SM E0 I0 P0 h n 0 g' ih (eAdd E r k l) (zI I r) (zP P r) := by
  subst hk; subst hl
  exact hS.arr hr hP (fun k => by rw [IV, if_neg (fun w => hI w.1)])
theorem x6_putF {EZ : jE} {Q : jE → jI → jP → Prop} {idx k0 m mc ms n' : Nat} (hS : SM E0 I0 P0 h n m g ih E I P) (h6 : eK E0 h = 6) (hd : decode cc pc = .ok (.putfield idx, 3)) (hF : jFf own idx 6 k0) (hr : jIsR (jTy 6 k0) = true) (hv : ∀ b : Nat, narrow (jTy 6 k0) (.ref b) = .ref b ∧ fits (jTy 6 k0) (.ref b) = true) (hn : n + 1 + m = n') (h0 : PH k0 = some n) (h2 : ∀ i k j, i < n → PT i k = some j → j < n ∨ n + 1 + m ≤ j) (h1 : ∀ k j, PH k = some j → k = k0 ∨ j < n ∨ n + 1 + m ≤ j)
    (kk : ∀ P', SB E0 I0 P0 h n' g ih E I P' → jJ E own cc nL rt R (jZn EZ Q A mc ms) cs ss (pc + 3) ls st I P') : jJ E own cc nL rt R (jZn EZ Q A mc ms) cs ss pc ls (jp (g n) :: jp h :: st) I P := by
  subst hn
  exact jJ_putrF hd hF hr (hv _) (hS.kh h6) (kk _ (hS.puth h0 h1 h2))
def jAO (s : State) : Prop := va_AO RX0 s ∧ va_AO RX4 s ∧ va_AO RX5 s
def ih6 : Nat → Int := va_up (va_up (va_up (va_up (fun _ => 0) 6 (-1)) 7 5) 8 2) 13 (-1)
theorem tx_row (t : Nat) (ht : t < 12) : ∀ k, k < 8 → KD (21 + 9 * t + 1 + k) = (if k = 0 then 8 else 9) ∧ LN (21 + 9 * t + 1 + k) = (if k = 0 then 800 else 200) ∧ (∀ j, PT (21 + 9 * t + 1 + k) j = none) ∧ ∀ j, IV (21 + 9 * t + 1 + k) j = 0 := by
  intro k hk
  refine ⟨?_, ?_, fun j => ?_, fun j => ?_⟩
  · unfold KD
    rw [if_neg (by omega), if_pos (by omega), if_neg (by omega)]
    by_cases z : k = 0
    · rw [if_pos (by omega), if_pos z]
    · rw [if_neg (by omega), if_neg z]
  · unfold LN
    rw [if_neg (by omega), if_pos (by omega), if_neg (by omega)]
    by_cases z : k = 0
    · rw [if_pos (by omega), if_pos z]
    · rw [if_neg (by omega), if_neg z]
  · unfold PT
    rw [if_neg (by omega), if_pos (by omega), if_neg (by omega)]
  · rw [IV, if_neg (by omega)]
theorem tx_k (t : Nat) (ht : t < 12) : KD (21 + 9 * t) = 5 ∧ LN (21 + 9 * t) = 0 ∧ ∀ k, PT (21 + 9 * t) k = if k < 8 then some (21 + 9 * t + 1 + k) else none := by
  refine ⟨?_, ?_, fun k => ?_⟩
  · unfold KD; rw [if_neg (by omega), if_pos (by omega), if_pos (by omega)]
  · unfold LN; rw [if_neg (by omega), if_pos (by omega), if_pos (by omega)]
  · unfold PT; rw [if_neg (by omega), if_pos (by omega), if_pos (by omega)]
theorem ta_row (t : Nat) : ∀ k, k < 2 → KD (129 + 4 * t + 1 + k) = 9 ∧ LN (129 + 4 * t + 1 + k) = (if k = 0 then 3 else 300) ∧ (∀ j, PT (129 + 4 * t + 1 + k) j = none) ∧ ∀ j, IV (129 + 4 * t + 1 + k) j = 0 := by
  intro k hk
  refine ⟨?_, ?_, fun j => ?_, fun j => ?_⟩
  · unfold KD
    rw [if_neg (by omega), if_neg (by omega), if_neg (by omega), if_neg (by omega)]
  · unfold LN
    rw [if_neg (by omega), if_neg (by omega), if_neg (by omega)]
    by_cases z : k = 0
    · rw [if_pos (by omega), if_pos z]
    · rw [if_neg (by omega), if_pos (by omega), if_neg z]
  · unfold PT
    rw [if_neg (by omega), if_neg (by omega), if_neg (by omega)]
  · rw [IV, if_neg (by omega)]
theorem ta_k (t : Nat) : KD (129 + 4 * t) = 4 ∧ LN (129 + 4 * t) = 0 ∧ ∀ k, PT (129 + 4 * t) k = if k < 2 then some (129 + 4 * t + 1 + k) else none := by
  refine ⟨?_, ?_, fun k => ?_⟩
  · unfold KD; rw [if_neg (by omega), if_neg (by omega), if_pos (by omega)]
  · unfold LN; rw [if_neg (by omega), if_neg (by omega), if_pos (by omega)]
  · unfold PT; rw [if_neg (by omega), if_neg (by omega), if_pos (by omega)]
theorem hb_k (t : Nat) : KD (132 + 4 * t) = 0 ∧ LN (132 + 4 * t) = 0 ∧ ∀ k, PT (132 + 4 * t) k = if k < 0 then some (132 + 4 * t + 1 + k) else none := by
  refine ⟨?_, ?_, fun k => ?_⟩
  · unfold KD; rw [if_neg (by omega), if_neg (by omega), if_neg (by omega), if_pos (by omega)]
  · unfold LN; rw [if_neg (by omega), if_neg (by omega), if_neg (by omega), if_neg (by omega), if_neg (by omega)]
  · unfold PT; rw [if_neg (by omega), if_neg (by omega), if_neg (by omega), if_neg (by omega)]
theorem PT_1 {k : Nat} (hk : k < 12) : PT 1 k = some (21 + 9 * k) := by unfold PT; rw [if_pos (by decide), if_pos rfl, if_pos hk]
theorem PT_13 {k : Nat} (hk : k < 16) : PT 13 k = some (129 + 4 * k) := by unfold PT; rw [if_pos (by decide), if_neg (by decide), if_neg (by decide), if_neg (by decide), if_pos rfl, if_pos hk]
theorem PT_14 {k : Nat} (hk : k < 16) : PT 14 k = some (132 + 4 * k) := by unfold PT; rw [if_pos (by decide), if_neg (by decide), if_neg (by decide), if_neg (by decide), if_neg (by decide), if_pos rfl, if_pos hk]
theorem x6_l2 (h6 : eK E0 h = 6) (hd : 2 ≤ d) : ∀ k t (g : Nat → Nat) (E : jE) (I : jI) (P : jP), t + k = 16 → SB E0 I0 P0 h (129 + 4 * t) g ih6 E I P → jJ E yX6_init.cls cX6_init 2 none (jRn d 193 37108) (jZn E0 (fun E' I' P' => ∃ g, SB E0 I0 P0 h 193 g ih6 E' I' P') jAO 193 37108) (129 + 4 * t) (32068 + 315 * t) 151 [some (jp h), some (ji (t : Int))] [] I P := by
  intro k
  induction k with
  | zero =>
    intro t g E I P htk hS
    obtain rfl : t = 16 := by omega
    refine jJ_iload_n (pc := 151) dX6_init_151 rfl ?_
    refine jJ_bipush (pc := 152) dX6_init_152 (by decide) ?_
    refine jJ_icmp_ge (pc := 154) (tgt := 189) dX6_init_154 (by decide) (fun c154 => ?_) (fun c154 => ?_)
    · exact jJ_vretN (pc := 189) hS.1 dX6_init_189 rfl ⟨g, hS⟩
    · omega
  | succ k ihk =>
    intro t g E I P htk hS
    have k0 := hS.kh h6
    refine jJ_iload_n (pc := 151) dX6_init_151 rfl ?_
    refine jJ_bipush (pc := 152) dX6_init_152 (by decide) ?_
    refine jJ_icmp_ge (pc := 154) (tgt := 189) dX6_init_154 (by decide) (fun c154 => ?_) (fun c154 => ?_)
    · omega
    · have p9 := hS.hp (k := 9) rfl (by omega)
      refine jJ_aload_n (pc := 157) dX6_init_157 rfl ?_
      refine jJ_getr (pc := 158) dX6_init_158 fX6_43 rfl k0 p9 ?_
      refine jJ_iload_n (pc := 161) dX6_init_161 rfl ?_
      refine jJ_mk (pc := 162) (d := d - 1) (n := 129 + 4 * t) (m := 2) (rk := fun _ => 9) (rl := fun k => if k = 0 then 3 else 300) hS (ta_k t).1 (ta_k t).2.1 (ta_row t) (ta_k t).2.2 dX6_init_162 rfl hd_X4 clX6_41 itX4 inX4 dX6_init_165 dX6_init_166 niX6_77 iiX4 inX4 icX4 (pn_i ⟨by decide, by decide⟩ (by decide +kernel)) rfl (Nat.le_of_ble_eq_true rfl) ⟨by show d - 1 + 1 ≤ d; omega, by show _ ≤ 60 * d; omega, by show _ ≤ 193; omega, by show 32068 + 315 * t + 4 + 303 ≤ 37108; omega⟩ (fun E I P b hb => p_Tally hb (by omega) (by omega)) ?_
      intro r g1 E1 I1 P1 er f1 s1
      subst er
      rw [← f1 13 (by omega)]
      have k13 := s1.kd (i := 13) (by omega)
      have kn := s1.kd (i := 129 + 4 * t) (by omega)
      rw [(ta_k t).1] at kn
      refine jJ_aast (pc := 169) (ci := 4) (t0 := 4) (kd := 12) (n := 16) dX6_init_169 k13 rfl rfl (by decide) ⟨by omega, by omega⟩ ⟨kn.1, kn.2.1⟩ ?_
      rw [Int.toNat_natCast]
      have s2 := s1.putp (i0 := 13) (k0 := t) (by omega) (PT_13 (by omega)) (fun k j hj => by have := PH_inv hj; omega) (fun i k j hi hj => by have := PT_inv hj; omega)
      have s3 : SB E0 I0 P0 h (132 + 4 * t) g1 ih6 E1 I1 (jputP P1 (g1 13) t (some (g1 (129 + 4 * t)))) := by rw [show 132 + 4 * t = 129 + 4 * t + 1 + 2 by omega]; exact s2
      generalize jputP P1 (g1 13) t (some (g1 (129 + 4 * t))) = P2 at s3 ⊢
      have k1 := s3.kh h6
      have p10 := s3.hp (k := 10) rfl (by omega)
      refine jJ_aload_n (pc := 170) dX6_init_170 rfl ?_
      refine jJ_getr (pc := 171) dX6_init_171 fX6_49 rfl k1 p10 ?_
      refine jJ_iload_n (pc := 174) dX6_init_174 rfl ?_
      refine jJ_mk (pc := 175) (d := d - 1) (n := 132 + 4 * t) (m := 0) (rk := fun _ => 0) (rl := fun _ => 0) s3 (hb_k t).1 (hb_k t).2.1 (fun k hk => absurd hk (Nat.not_lt_zero k)) (hb_k t).2.2 dX6_init_175 rfl hd_X0 clX6_47 itX0 inX0 dX6_init_178 dX6_init_179 niX6_78 iiX0 inX0 icX0 (pn_i ⟨by decide, by decide⟩ (by decide +kernel)) rfl (Nat.le_of_ble_eq_true rfl) ⟨by show d - 1 + 1 ≤ d; omega, by show _ ≤ 60 * d; omega, by show _ ≤ 193; omega, by show 32068 + 315 * t + 4 + 303 + 8 + 0 ≤ 37108; omega⟩ (fun E I P b hb => p_Habit hb (hb_k t).1 (by omega)) ?_
      intro r g2 E2 I2 P3 er f2 s4
      subst er
      rw [← f2 14 (by omega)]
      have k14 := s4.kd (i := 14) (by omega)
      have kn2 := s4.kd (i := 132 + 4 * t) (by omega)
      rw [(hb_k t).1] at kn2
      refine jJ_aast (pc := 182) (ci := 0) (t0 := 3) (kd := 11) (n := 16) dX6_init_182 k14 rfl rfl (by decide) ⟨by omega, by omega⟩ ⟨kn2.1, kn2.2.1⟩ ?_
      rw [Int.toNat_natCast]
      have s5 := s4.putp (i0 := 14) (k0 := t) (by omega) (PT_14 (by omega)) (fun k j hj => by have := PH_inv hj; omega) (fun i k j hi hj => by have := PT_inv hj; omega)
      have s6 : SB E0 I0 P0 h (129 + 4 * (t + 1)) g2 ih6 E2 I2 (jputP P3 (g2 14) t (some (g2 (132 + 4 * t)))) := by rw [show 129 + 4 * (t + 1) = 132 + 4 * t + 1 + 0 by omega]; exact s5
      generalize jputP P3 (g2 14) t (some (g2 (132 + 4 * t))) = P4 at s6 ⊢
      refine jJ_iinc (pc := 183) (ls' := [_, _]) dX6_init_183 rfl ⟨by omega, by omega⟩ rfl ?_
      refine jJ_goto (pc := 186) (tgt := 151) dX6_init_186 (by decide) ?_
      exact jJ_cs (by omega) (by show 32068 + 315 * t + 4 + 303 + 8 + 0 = _; omega) (ihk (t + 1) g2 E2 I2 P4 (by omega) s6)
end JX6w
