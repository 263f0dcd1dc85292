section JX6
variable {E E0 E' : jE} {I I0 I1 I' : jI} {P P0 P' : jP} {h n d : Nat} {g : Nat → Nat} {ih : Nat → Int} {A : State → Prop}
theorem SB.zero (hm : h ∈ eL E) (hP : ∀ k, P h k = none) (hI : ∀ k, I h k = 0) : SB E I P h 0 (fun _ => 0) (fun _ => 0) E I P := by
  refine ⟨eSame.rf, hm, by simp, fun i hi => absurd hi (Nat.not_lt_zero i), fun i j hi => absurd hi (Nat.not_lt_zero i), fun a _ => ⟨rfl, rfl, fun _ => ⟨rfl, rfl⟩⟩, fun i hi => absurd hi (Nat.not_lt_zero i), fun i hi => absurd hi (Nat.not_lt_zero i), fun k => ?_, hI, fun i hi => absurd hi (Nat.not_lt_zero i)⟩
  have e : fl 0 (PH k) = none := by
    cases hh : PH k with
    | none => rfl
    | some j => rw [fl_some rfl, if_neg (Nat.not_lt_zero j)]
  show P h k = (fl 0 (PH k)).map (fun _ => 0) ∧ ∀ j, fl 0 (PH k) = some j → j < 0
  rw [hP k, e]
  exact ⟨rfl, fun j hj => by cases hj⟩
/-- what the constructor of the n-th object leaves -/
def CPo (n m : Nat) (rk rl : Nat → Nat) (E : jE) (I : jI) (P : jP) (b : Nat) (E' : jE) (I' : jI) (P' : jP) : Prop := ∃ (q : Nat → Nat) (I1 : jI), RM (fun _ _ => 0) E I1 P b ((List.range m).map (fun k => (k, rk k, rl k, q k))) E' I' P' ∧ (∀ a, a ≠ b → I1 a = I a) ∧ (KD n ≠ 0 → (∀ k, I b k = 0) → ∀ k, I1 b k = IV n k)
theorem jN_mono {y : MethodName} {cc : ByteArray} {n2 mc ms : Nat} {as : List jV} {Q Q' : jE → jI → jP → Prop} (hh : jN E A y cc n2 d mc ms as I P Q) (hq : ∀ E' I' P', Q E' I' P' → Q' E' I' P') : jN E A y cc n2 d mc ms as I P Q' := by
  intro hr p e a1 a2 a3 s m args below b1 b2 b3 b4
  obtain ⟨k, o, c1, c2, c3, ⟨⟨E', I', P', e1, e2, e3, e4⟩, h4⟩, h5⟩ := hh hr p e a1 a2 a3 s m args below b1 b2 b3 b4
  exact ⟨k, o, c1, c2, c3, ⟨⟨E', I', P', e1, e2, hq _ _ _ e3, e4⟩, h4⟩, h5⟩
variable {own : String} {cc : ByteArray} {nL : Nat} {rt : Option FieldType} {R : Room} {Z : Code → List Frame → Array Value → State → State → Prop} {cs ss pc : Nat} {ls : List (Option jV)} {st : List jV}
/-- new, dup, the constructor: the n-th object is made, with its m rows -/
theorem jJ_mk {idx ix ci n2 mc ms m : Nat} {q : vw_C} {y : MethodName} {c2 : ByteArray} {rk rl : Nat → Nat} (hS : SB E0 I0 P0 h n g ih E I P) (hK : KD n = ci) (hLn : LN n = 0) (hrow : ∀ k, k < m → KD (n + 1 + k) = rk k ∧ LN (n + 1 + k) = rl k ∧ (∀ j, PT (n + 1 + k) j = none) ∧ ∀ j, IV (n + 1 + k) j = 0) (hPn : ∀ k, PT n k = if k < m then some (n + 1 + k) else none)
    (hd : decode cc pc = .ok (.new idx, 3)) (hq : vwCl[ci]? = some q) (hdf : ∀ j, j < q.2.2 → defaultValue (jTy ci j) = if jIsR (jTy ci j) = true then .null else .int 0) (hcl : Cond.classLink own idx q.1 ∈ jT) (hin : Cond.instantiable q.1 q.2.2 ∈ jT) (hini : Cond.initialized q.1 ∈ jT)
    (hd2 : decode cc (pc + 3) = .ok (.dup, 1)) (hd3 : decode cc (pc + 4) = .ok (.invokespecial ix, 3)) (m1 : Cond.methodLink own ix y ∈ jT ∨ ∃ host, Cond.methodLinkNest own ix y host ∈ lw_tbl) (m2 : Cond.instanceMethod y ∈ jT) (m3 : Cond.initialized y.cls ∈ jT) (m4 : Cond.code y c2 n2 none ∈ jT) (m5 : jPn y 0) (m6 : y.name = "<init>") (hst : ((jp 0 :: st).map (fun v => (jc v).category)).sum ≤ 8) (hR : d + 1 ≤ R.frames ∧ 8 + (n2 + 11) + 60 * d ≤ R.locals ∧ cs + 1 + mc ≤ R.cells ∧ ss + q.2.2 + ms ≤ R.slots)
    (hC : ∀ (E : jE) (I : jI) (P : jP) (b : Nat), jK E ci b → jN E (fun _ => True) y c2 n2 d mc ms [jp b] I P (CPo n m rk rl E I P b))
    (kk : ∀ r g' E' I' P', g' n = r → (∀ i, i < n → g' i = g i) → SM E0 I0 P0 h n m g' ih E' I' P' → jJ E' own cc nL rt R Z (cs + 1 + mc) (ss + q.2.2 + ms) (pc + 7) ls (jp r :: st) I' P') : jJ E own cc nL rt R Z cs ss pc ls st I P := by
  refine jJ_new hd hq hdf hcl hin hini ⟨by omega, by omega⟩ (fun r hr => ?_)
  refine jJ_dup hd2 rfl ?_
  refine jJ_callN (as := []) (d := d) (mc := mc) (ms := ms) (b := r) (pc := pc + 4) hd3 m1 m2 m3 m4 m5 m6 hst hR (hC _ _ _ r ⟨List.mem_append_right _ List.mem_cons_self, va_up_self _ _ _⟩) (fun E' I' P' hE hQ => ?_)
  obtain ⟨q', I1, g1, g2, g3⟩ := hQ
  obtain ⟨g', e1, e2, e3⟩ := SB.mk hS hr (by rw [hK, hLn]; exact g1) g2 (fun z => g3 z (fun k => zI_s)) hrow hPn
  exact kk r g' E' I' P' e1 e2 e3
end JX6
section JX6i
variable {E E0 E' : jE} {I I0 I1 I' : jI} {P P0 P' : jP} {h n d b : Nat} {g : Nat → Nat} {A : State → Prop}
theorem hd_X5 : ∀ j, j < 13 → defaultValue (jTy 5 j) = if jIsR (jTy 5 j) = true then .null else .int 0 := by
  intro j hj
  rcases j with _|_|_|_|_|_|_|_|_|_|_|_|_|j <;> first | rfl | omega
theorem hd_X3 : ∀ j, j < 11 → defaultValue (jTy 3 j) = if jIsR (jTy 3 j) = true then .null else .int 0 := by
  intro j hj
  rcases j with _|_|_|_|_|_|_|_|_|_|_|j <;> first | rfl | omega
theorem hd_X2 : ∀ j, j < 3 → defaultValue (jTy 2 j) = if jIsR (jTy 2 j) = true then .null else .int 0 := by
  intro j hj
  rcases j with _|_|_|j <;> first | rfl | omega
theorem hd_X1 : ∀ j, j < 3 → defaultValue (jTy 1 j) = if jIsR (jTy 1 j) = true then .null else .int 0 := by
  intro j hj
  rcases j with _|_|_|j <;> first | rfl | omega
theorem hd_X4 : ∀ j, j < 4 → defaultValue (jTy 4 j) = if jIsR (jTy 4 j) = true then .null else .int 0 := by
  intro j hj
  rcases j with _|_|_|_|j <;> first | rfl | omega
theorem hd_X0 : ∀ j, j < 8 → defaultValue (jTy 0 j) = if jIsR (jTy 0 j) = true then .null else .int 0 := by
  intro j hj
  rcases j with _|_|_|_|_|_|_|_|j <;> first | rfl | omega
theorem p_Text (hb : jK E 5 b) (hn : n ≠ 11) (hd : 1 ≤ d) : jN E A yX5_init cX5_init 1 d 8 2200 [jp b] I P (CPo n 8 (fun k => if k = 0 then 8 else 9) (fun k => if k = 0 then 800 else 200) E I P b) := jN_mono (n_Text hb hd) (fun E' I' P' ⟨q, hR⟩ => ⟨q, I, hR, fun _ _ => rfl, fun _ z k => by rw [z k, IV, if_neg (fun w => hn w.1)]⟩)
theorem p_Reader (hb : jK E 3 b) (hd : 1 ≤ d) : jN E A yX3_init cX3_init 1 d 1 6 [jp b] I P (CPo 11 1 (fun _ => 9) (fun _ => 6) E I P b) := jN_mono (n_Reader hb hd) (fun E' I' P' ⟨q, hR⟩ => ⟨fun _ => q, _, hR, fun a ha => by funext k; exact jput_a _ ha, fun _ z k => by
  by_cases w : k = 7
  · rw [w, jput_s]; rfl
  · rw [jput_k _ w, z k, IV, if_neg (fun y => w y.2)]⟩)
theorem p_Out (hb : jK E 2 b) (hn : n ≠ 11) (hd : 1 ≤ d) : jN E A yX2_init cX2_init 1 d 1 2000 [jp b] I P (CPo n 1 (fun _ => 8) (fun _ => 2000) E I P b) := jN_mono (n_Out hb hd) (fun E' I' P' ⟨q, hR⟩ => ⟨fun _ => q, I, hR, fun _ _ => rfl, fun _ z k => by rw [z k, IV, if_neg (fun w => hn w.1)]⟩)
theorem p_Maker (hb : jK E 1 b) (hn : n ≠ 11) (hd : 1 ≤ d) : jN E A yX1_init cX1_init 1 d 1 32 [jp b] I P (CPo n 1 (fun _ => 8) (fun _ => 32) E I P b) := jN_mono (n_Maker hb hd) (fun E' I' P' ⟨q, hR⟩ => ⟨fun _ => q, I, hR, fun _ _ => rfl, fun _ z k => by rw [z k, IV, if_neg (fun w => hn w.1)]⟩)
theorem p_Tally (hb : jK E 4 b) (hn : n ≠ 11) (hd : 1 ≤ d) : jN E A yX4_init cX4_init 1 d 2 303 [jp b] I P (CPo n 2 (fun _ => 9) (fun k => if k = 0 then 3 else 300) E I P b) := jN_mono (n_Tally hb hd) (fun E' I' P' ⟨q0, q1, hR⟩ => ⟨fun k => if k = 0 then q0 else q1, I, hR, fun _ _ => rfl, fun _ z k => by rw [z k, IV, if_neg (fun w => hn w.1)]⟩)
theorem p_Habit (hb : jK E 0 b) (hn : KD n = 0) (hd : 1 ≤ d) : jN E A yX0_init cX0_init 1 d 0 0 [jp b] I P (CPo n 0 (fun _ => 0) (fun _ => 0) E I P b) := jN_mono (n_Habit hb hd) (fun E' I' P' ⟨h1, h2, h3⟩ => ⟨fun _ => 0, I', by subst h1; subst h2; exact RM.nil hb.1, h3, fun z => absurd hn z⟩)
theorem pn_i {y : MethodName} (h1 : y.cls ≠ "java/lang/invoke/MethodHandle" ∧ y.cls ≠ "java/lang/invoke/VarHandle") (h2 : (parseMethodDescriptor y.desc).map (fun d => d.parameters.length) = some 0) : jPn y 0 := ⟨h1.1, h1.2, h2⟩
end JX6i
