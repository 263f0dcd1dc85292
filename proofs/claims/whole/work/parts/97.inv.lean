section JInv
variable {E : jE} {I I' : jI} {P : jP} {d h m : Nat} {c x t hb a : Nat → Nat} {q u : Nat → Nat → Nat} {C : Nat → Prop} {tp l : List Int} {th nb : Nat → Int} {X : Nat → TX} {S : Nat → Nat → Int}
theorem jCx_mono {y : MethodName} {cc : ByteArray} {k mc : Nat} {rt : Option FieldType} {as : List jV} {Q Q' : Option jV → jI → jP → Prop} {X X' : String → jI → jP → Prop} (h : jCx E y cc k rt d mc as I P Q X) (hq : ∀ v I' P', Q v I' P' → Q' v I' P') (hx : ∀ v I' P', X v I' P' → X' v I' P') : jCx E y cc k rt d mc as I P Q' X' := by
  intro hr p e a1 a2 a3 s m args below b1 b2 b3 b4
  obtain ⟨k, o, c1, c2, c3, h⟩ := h hr p e a1 a2 a3 s m args below b1 b2 b3 b4
  refine ⟨k, o, c1, c2, c3, ?_⟩
  rcases h with ⟨⟨⟨r, I', P', e1, e2, e3, e4⟩, h4⟩, h5⟩ | ⟨q, h1, Ec, ce, L, ⟨⟨I', P', g1, g2⟩, g3⟩, h2⟩
  · exact Or.inl ⟨⟨⟨r, I', P', e1, e2, hq _ _ _ e3, e4⟩, h4⟩, h5⟩
  · exact Or.inr ⟨q, h1, Ec, ce, L, ⟨⟨I', P', hx _ _ _ g1, g2⟩, g3⟩, h2⟩
/-- how the class lies: c = tape, texts, reader, open row, tallies, style, Out, its row, Maker, its row, starts, ends; x = the TEXTS, the spare one last -/
def CL (E : jE) (P : jP) (h : Nat) (c x : Nat → Nat) (q : Nat → Nat → Nat) (t : Nat → Nat) (u : Nat → Nat → Nat) (hb : Nat → Nat) : Prop :=
  jK E 6 h ∧ (P h 0 = some (c 0) ∧ jAr E 8 (c 0) 800) ∧ (P h 2 = some (c 1) ∧ jAr E 13 (c 1) 12 ∧ ∀ t, t < 12 → P (c 1) t = some (x t)) ∧ P h 3 = some (x 12) ∧ (∀ t, t ≤ 12 → TxL E P (x t) (q t)) ∧ (P h 4 = some (c 2) ∧ RdL E P (c 2) (c 3)) ∧ TaL E P h (c 4) t u ∧ SyL E P h (c 5) hb ∧ MkL E P h (c 8) (c 9) ∧ MdL E P h (c 6) (c 7) (c 10) (c 11)
/-- its addresses are apart -/
def CD (c x : Nat → Nat) (q u : Nat → Nat → Nat) (hb : Nat → Nat) : Prop := (∀ i j, i ≤ 12 → j ≤ 12 → x i = x j → i = j) ∧ (∀ s t i j, s ≤ 12 → t ≤ 12 → i ≤ 7 → j ≤ 7 → q s i = q t j → s = t ∧ i = j) ∧ (∀ t i, t ≤ 12 → i ≤ 7 → q t i ≠ c 0 ∧ q t i ≠ c 3 ∧ q t i ≠ c 7 ∧ q t i ≠ c 9 ∧ q t i ≠ c 10 ∧ q t i ≠ c 11 ∧ ¬ taS u (q t i)) ∧ TaD u ∧ (∀ i j, i < 16 → j < 16 → hb i = hb j → i = j) ∧ (c 0 ≠ c 7 ∧ c 0 ≠ c 9 ∧ c 7 ≠ c 9 ∧ c 10 ≠ c 11 ∧ c 3 ≠ c 10 ∧ c 3 ≠ c 11) ∧ ¬ taS u (c 3) ∧ ¬ taS u (c 10) ∧ ¬ taS u (c 11)
/-- its addresses are among C -/
def CA (C : Nat → Prop) (h : Nat) (c x : Nat → Nat) (q : Nat → Nat → Nat) (t : Nat → Nat) (u : Nat → Nat → Nat) (hb : Nat → Nat) : Prop := C h ∧ (∀ i, i ≤ 11 → C (c i)) ∧ (∀ t, t ≤ 12 → C (x t)) ∧ (∀ t i, t ≤ 12 → i ≤ 7 → C (q t i)) ∧ (∀ k, k < 16 → C (t k) ∧ C (hb k)) ∧ ∀ k i, k < 16 → i < 2 → C (u k i)
/-- what the class holds: tape, TEXTS, numbers (FAULT, place, two prices, styled, of which TEXT OUT is), THE STYLE, OUT -/
def CS (I : jI) (h : Nat) (c x : Nat → Nat) (q : Nat → Nat → Nat) (hb : Nat → Nat) (tp : List Int) (th : Nat → Int) (X : Nat → TX) (nb : Nat → Int) (S : Nat → Nat → Int) (l : List Int) : Prop :=
  (I h 1 = (tp.length : Int) ∧ (∀ k, k < tp.length → bR (I (c 0) k) (tp.getD k 0)) ∧ ∀ i : Nat, i < 800 → -128 ≤ I (c 0) i ∧ I (c 0) i ≤ 127) ∧
  (∀ t, t < 12 → I (x t) 8 = th t ∧ (th t ≠ 0 → CT I (x t) (q t) (X t))) ∧
  (I h 5 = nb 0 ∧ I h 6 = nb 1 ∧ I h 7 = nb 2 ∧ I h 8 = nb 3 ∧ I h 11 = nb 4 ∧ I h 13 = nb 5) ∧
  (nb 4 ≠ 0 → ∀ k j, k < 16 → j < 8 → I (hb k) j = S k j) ∧
  (I (c 6) 1 = (l.length : Int) ∧ I (c 6) 2 = 0 ∧ ∀ k, k < l.length → I (c 7) k = jB (l.getD k 0))
/-- what the reference holds -/
def RW (I : jI) (m : Nat) (a : Nat → Nat) (tp : List Int) (th : Nat → Int) (X : Nat → TX) (nb : Nat → Int) (S : Nat → Nat → Int) (l : List Int) : Prop :=
  (I m 2 = (tp.length : Int) ∧ ∀ k, k < tp.length → I (a 1) k = tp.getD k 0) ∧ (∀ t, t < 12 → I (a 5) t = th t ∧ (th t ≠ 0 → RT I a t (X t))) ∧
  (I m 3 = nb 0 ∧ I m 4 = nb 1 ∧ I (a 17) 0 = nb 2 ∧ I (a 17) 1 = nb 3 ∧ I m 16 = nb 4 ∧ I m 21 = nb 6) ∧ (nb 4 ≠ 0 → RS I a S) ∧ (I m 20 = (l.length : Int) ∧ ∀ k, k < l.length → I (a 19) k = l.getD k 0)
/-- the bytes l read with a FAULT -/
def bad (l : List Int) : Prop := ∀ (g h0 r0 : Nat → Int), (∀ k, k < l.length → g k = l.getD k 0) → (rdGo g l.length 201 (rdS0 h0) r0 []).1 ≠ 0
/-- what is held is well formed -/
def WS (tp : List Int) (th : Nat → Int) (X : Nat → TX) (nb : Nat → Int) (l : List Int) : Prop := (tp.length ≤ 800 ∧ byt tp) ∧ (∀ t, t < 12 → (th t = 0 ∨ th t = 1) ∧ (th t ≠ 0 → WX (X t))) ∧ ((0 ≤ nb 2 ∧ nb 2 ≤ 100) ∧ 0 ≤ nb 3 ∧ nb 3 ≤ 100) ∧ (l.length ≤ 2000 ∧ byt l) ∧ (nb 6 = nb 5 ∨ (nb 6 = -1 ∧ bad l))
/-- the reference lies apart from the class -/
def AP (C : Nat → Prop) (m : Nat) (a : Nat → Nat) : Prop := ∀ b, C b → b ≠ m ∧ ∀ j, j ∈ rfK → b ≠ a j
theorem CL.ts (hL : CL E P h c x q t u hb) : TsL E P h (c 1) x q := ⟨hL.2.2.1.1, hL.2.2.1.2.1, fun t ht => ⟨hL.2.2.1.2.2 t ht, hL.2.2.2.2.1 t (by omega)⟩⟩
theorem CL.hts (hL : CL E P h c x q t u hb) : ∀ t, t < 12 → P (c 1) t = some (x t) ∧ jK E 5 (x t) := fun t ht => ⟨hL.2.2.1.2.2 t ht, (hL.2.2.2.2.1 t (by omega)).1⟩
theorem CS.cg (hC : CA C h c x q t u hb) (hS : CS I h c x q hb tp th X nb S l) (he : ∀ b, C b → I' b = I b) : CS I' h c x q hb tp th X nb S l := by
  obtain ⟨a1, a2, a3, a4, a5, a6⟩ := hC
  unfold CS at *
  rw [he h a1, he _ (a2 0 (by decide)), he _ (a2 6 (by decide)), he _ (a2 7 (by decide))]
  refine ⟨hS.1, fun t ht => ?_, hS.2.2.1, fun h4 k j hk hj => ?_, hS.2.2.2.2⟩
  · rw [he _ (a3 t (by omega))]
    refine ⟨(hS.2.1 t ht).1, fun h8 => ((hS.2.1 t ht).2 h8).cg (fun k _ _ => by rw [he _ (a3 t (by omega))]) (fun j hj => he _ (a4 t j (by omega) hj))⟩
  · rw [he _ (a5 k hk).2]
    exact hS.2.2.2.1 h4 k j hk hj
theorem RW.cg (hR : RW I m a tp th X nb S l) (he : ∀ j, j ∈ rfK → I' (a j) = I (a j)) (hk : ∀ k, k ≠ 0 → k < 22 → I' m k = I m k) : RW I' m a tp th X nb S l := by
  unfold RW at *
  rw [hk 2 (by decide) (by decide), hk 3 (by decide) (by decide), hk 4 (by decide) (by decide), hk 16 (by decide) (by decide), hk 20 (by decide) (by decide), hk 21 (by decide) (by decide), he 1 (by decide), he 5 (by decide), he 17 (by decide), he 19 (by decide)]
  refine ⟨hR.1, fun t ht => ⟨(hR.2.1 t ht).1, fun h5 => ((hR.2.1 t ht).2 h5).cg (fun j h1 h2 => he j (rfK_515 j (by omega) h2))⟩, hR.2.2.1, fun h4 k j h1 h2 => ?_, hR.2.2.2.2⟩
  rw [he 18 (by decide)]
  exact hR.2.2.2.1 h4 k j h1 h2
theorem RW.rts (hR : RW I m a tp th X nb S l) (hW : WS tp th X nb l) : RTs I a X := fun t ht h5 => by
  rw [(hR.2.1 t ht).1] at h5
  exact ⟨(hR.2.1 t ht).2 h5, (hW.2.1 t ht).2 h5⟩
theorem RW.p0 (hL : RfL E P m a) (hR : RW I m a tp th X nb S l) (v : Int) : RW (jput I m 0 v) m a tp th X nb S l := hR.cg (fun j hj => jput_row (hL.nm hj)) (fun k hk _ => jput_k _ hk)
theorem CS.cts (hS : CS I h c x q hb tp th X nb S l) (hW : WS tp th X nb l) : ∀ t, t < 12 → I (x t) 8 ≠ 0 → CT I (x t) (q t) (X t) ∧ WX (X t) := fun t ht h8 => by
  rw [(hS.2.1 t ht).1] at h8
  exact ⟨(hS.2.1 t ht).2 h8, (hW.2.1 t ht).2 h8⟩
/-- there is a TEXT of this number -/
def thr (th : Nat → Int) (t : Int) : Prop := 0 ≤ t ∧ t < 12 ∧ th t.toNat ≠ 0
theorem CS.ex (hS : CS I h c x q hb tp th X nb S l) {t : Int} : exT I x t ↔ thr th t := by
  unfold exT thr
  constructor
  · rintro ⟨h1, h2, h3⟩
    exact ⟨h1, h2, by rw [← (hS.2.1 t.toNat (by omega)).1]; exact h3⟩
  · rintro ⟨h1, h2, h3⟩
    exact ⟨h1, h2, by rw [(hS.2.1 t.toNat (by omega)).1]; exact h3⟩
theorem RW.ex (hR : RW I m a tp th X nb S l) {t : Int} : rTh I a t ↔ thr th t := by
  unfold rTh thr
  constructor
  · rintro ⟨h1, h2, h3⟩
    exact ⟨h1, h2, by rw [← (hR.2.1 t.toNat (by omega)).1]; exact h3⟩
  · rintro ⟨h1, h2, h3⟩
    exact ⟨h1, h2, by rw [(hR.2.1 t.toNat (by omega)).1]; exact h3⟩
end JInv
