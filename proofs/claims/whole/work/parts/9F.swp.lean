section JSwp
variable {E : jE} {I I' J : jI} {P P' : jP} {d h m s t0 : Nat} {c x t hb a : Nat → Nat} {q u : Nat → Nat → Nat} {C : Nat → Prop} {tp l l' : List Int} {th nb nb' : Nat → Int} {X : Nat → TX} {S : Nat → Nat → Int}
/-- two TEXTS change places -/
def sw (t i : Nat) : Nat := if i = t then 12 else if i = 12 then t else i
def swp {α : Type} (f : Nat → α) (t : Nat) : Nat → α := fun i => f (sw t i)
theorem sw_le {i : Nat} (ht : t0 < 12) (hi : i ≤ 12) : sw t0 i ≤ 12 := by unfold sw; (repeat' split) <;> omega
theorem sw_inj {i j : Nat} (e : sw t0 i = sw t0 j) : i = j := by
  unfold sw at e
  (repeat' split at e) <;> omega
theorem sw_t : sw t0 t0 = 12 := by simp [sw]
theorem sw_12 (ht : t0 < 12) : sw t0 12 = t0 := by unfold sw; rw [if_neg (by omega), if_pos rfl]
theorem sw_o {i : Nat} (h1 : i ≠ t0) (h2 : i < 12) : sw t0 i = i := by unfold sw; rw [if_neg h1, if_neg (by omega)]
def swP (P : jP) (tx t sp h xt : Nat) : jP := jputP (jputP P tx t (some sp)) h 3 (some xt)
theorem TxL.cg {y : Nat} {r : Nat → Nat} (hx : TxL E P y r) (e : ∀ k, P' y k = P y k) : TxL E P' y r := by
  unfold TxL at *
  simp only [e]
  exact hx
theorem CL.swp (hL : CL E P h c x q t u hb) (ht : t0 < 12) : CL E (swP P (c 1) t0 (x 12) h (x t0)) h c (swp x t0) (swp q t0) t u hb := by
  have k1 : eK E (c 1) = 13 := hL.2.2.1.2.1.2.1
  have h1 : h ≠ c 1 := jne hL.1.2 k1 (by decide)
  have eP : ∀ b k, b ≠ c 1 → (b = h → k ≠ 3) → swP P (c 1) t0 (x 12) h (x t0) b k = P b k := fun b k g1 g2 => by
    unfold swP
    simp only [jputP]
    rw [if_neg (fun z => g2 z.1 z.2), if_neg (fun z => g1 z.1)]
  have eh : ∀ k, k ≠ 3 → swP P (c 1) t0 (x 12) h (x t0) h k = P h k := fun k hk => eP h k h1 (fun _ => hk)
  have eo : ∀ b, b ≠ c 1 → b ≠ h → ∀ k, swP P (c 1) t0 (x 12) h (x t0) b k = P b k := fun b g1 g2 k => eP b k g1 (fun z => absurd z g2)
  obtain ⟨a1, ⟨a2, a3⟩, ⟨a4, a5, a6⟩, a7, a8, ⟨a9, a10, a11, a12⟩, ⟨b1, b2, b3⟩, ⟨b4, b5, b6⟩, ⟨b7, b8, b9, b10⟩, ⟨d1, d2, d3, d4, d5, d6, d7, d8⟩⟩ := hL
  refine ⟨a1, ⟨by rw [eh 0 (by decide)]; exact a2, a3⟩, ⟨by rw [eh 2 (by decide)]; exact a4, a5, fun i hi => ?_⟩, ?_, fun i hi => ?_, ⟨by rw [eh 4 (by decide)]; exact a9, a10, ?_, a12⟩, ⟨by rw [eh 9 (by decide)]; exact b1, b2, fun k hk => ?_⟩, ⟨by rw [eh 10 (by decide)]; exact b4, b5, fun k hk => ?_⟩, ⟨by rw [eh 14 (by decide)]; exact b7, b8, ?_, b10⟩, ⟨by rw [eh 12 (by decide)]; exact d1, d2, ?_, d4, by rw [eh 15 (by decide)]; exact d5, d6, by rw [eh 16 (by decide)]; exact d7, d8⟩⟩
  · show swP P (c 1) t0 (x 12) h (x t0) (c 1) i = some (x (sw t0 i))
    unfold swP
    simp only [jputP]
    rw [if_neg (fun z => h1 z.1.symm)]
    by_cases e : i = t0
    · rw [if_pos ⟨trivial, e⟩, e, sw_t]
    · rw [if_neg (fun z => e z.2), sw_o e hi]
      exact a6 i hi
  · show swP P (c 1) t0 (x 12) h (x t0) h 3 = some (x (sw t0 12))
    unfold swP
    simp only [jputP]
    rw [sw_12 ht]
    simp
  · have g := a8 (sw t0 i) (sw_le ht hi)
    exact g.cg (eo _ (jne g.1.2 k1 (by decide)) (jne g.1.2 a1.2 (by decide)))
  · rw [eo _ (jne a10.2 k1 (by decide)) (jne a10.2 a1.2 (by decide))]
    exact a11
  · obtain ⟨g1, g2, g3, g4, g5⟩ := b3 k hk
    refine ⟨?_, g2, ?_, ?_, g5⟩
    · rw [eo _ (jne b2.2.1 k1 (by decide)) (jne b2.2.1 a1.2 (by decide))]; exact g1
    · rw [eo _ (jne g2.2 k1 (by decide)) (jne g2.2 a1.2 (by decide))]; exact g3
    · rw [eo _ (jne g2.2 k1 (by decide)) (jne g2.2 a1.2 (by decide))]; exact g4
  · rw [eo _ (jne b5.2.1 k1 (by decide)) (jne b5.2.1 a1.2 (by decide))]
    exact b6 k hk
  · rw [eo _ (jne b8.2 k1 (by decide)) (jne b8.2 a1.2 (by decide))]
    exact b9
  · rw [eo _ (jne d2.2 k1 (by decide)) (jne d2.2 a1.2 (by decide))]
    exact d3
theorem CD.swp (hD : CD c x q u hb) (ht : t0 < 12) : CD c (swp x t0) (swp q t0) u hb := by
  obtain ⟨a1, a2, a3, a4⟩ := hD
  refine ⟨fun i j hi hj e => sw_inj (a1 _ _ (sw_le ht hi) (sw_le ht hj) e), fun s r i j hs hr hi hj e => ?_, fun i j hi hj => a3 _ j (sw_le ht hi) hj, a4⟩
  have g := a2 _ _ i j (sw_le ht hs) (sw_le ht hr) hi hj e
  exact ⟨sw_inj g.1, g.2⟩
theorem CA.swp (hA : CA C h c x q t u hb) (ht : t0 < 12) : CA C h c (swp x t0) (swp q t0) t u hb := by
  obtain ⟨a1, a2, a3, a4, a5⟩ := hA
  exact ⟨a1, a2, fun i hi => a3 _ (sw_le ht hi), fun i j hi hj => a4 _ j (sw_le ht hi) hj, a5⟩
/-- a reading leaves what the class holds -/
theorem CL.rpx (hL : CL E P h c x q t u hb) (hD : CD c x q u hb) (fx : ∀ b, b ≠ x 12 → (∀ j, j ≤ 7 → b ≠ q 12 j) → b ≠ c 2 → b ≠ c 3 → J b = I b) : J h = I h ∧ J (c 0) = I (c 0) ∧ J (c 6) = I (c 6) ∧ J (c 7) = I (c 7) ∧ (∀ k, k < 16 → J (hb k) = I (hb k)) ∧ (∀ i, i < 12 → J (x i) = I (x i)) ∧ ∀ i j, i < 12 → j ≤ 7 → J (q i j) = I (q i j) := by
  have kx : ∀ i, i ≤ 12 → eK E (x i) = 5 := fun i hi => (hL.2.2.2.2.1 i hi).1.2
  have kq : ∀ i j, i ≤ 12 → j ≤ 7 → eK E (q i j) = 8 ∨ eK E (q i j) = 9 := fun i j hi hj => (hL.2.2.2.2.1 i hi).kq j hj
  have k2 : eK E (c 2) = 3 := hL.2.2.2.2.2.1.2.1.2
  have k3 : eK E (c 3) = 9 := hL.2.2.2.2.2.1.2.2.2.2.1
  have k0 : eK E (c 0) = 8 := hL.2.1.2.2.1
  have k6 : eK E (c 6) = 2 := hL.2.2.2.2.2.2.2.2.2.2.1.2
  have k7 : eK E (c 7) = 8 := hL.2.2.2.2.2.2.2.2.2.2.2.2.1.2.1
  have nq : ∀ b k, eK E b = k → k ≠ 8 → k ≠ 9 → ∀ j, j ≤ 7 → b ≠ q 12 j := fun b k hk h8 h9 j hj e => by
    rcases kq 12 j (by omega) hj with z | z <;> rw [← e, hk] at z
    · exact h8 z
    · exact h9 z
  refine ⟨fx _ (jne hL.1.2 (kx 12 (by omega)) (by decide)) (nq _ 6 hL.1.2 (by decide) (by decide)) (jne hL.1.2 k2 (by decide)) (jne hL.1.2 k3 (by decide)), fx _ (jne k0 (kx 12 (by omega)) (by decide)) (fun j hj => Ne.symm (hD.2.2.1 12 j (by omega) hj).1) (jne k0 k2 (by decide)) (jne k0 k3 (by decide)), fx _ (jne k6 (kx 12 (by omega)) (by decide)) (nq _ 2 k6 (by decide) (by decide)) (jne k6 k2 (by decide)) (jne k6 k3 (by decide)), fx _ (jne k7 (kx 12 (by omega)) (by decide)) (fun j hj => Ne.symm (hD.2.2.1 12 j (by omega) hj).2.2.1) (jne k7 k2 (by decide)) (jne k7 k3 (by decide)), fun k hk => ?_, fun i hi => ?_, fun i j hi hj => ?_⟩
  · have kb := (hL.2.2.2.2.2.2.2.1.2.2 k hk).2.2
    exact fx _ (jne kb (kx 12 (by omega)) (by decide)) (nq _ 0 kb (by decide) (by decide)) (jne kb k2 (by decide)) (jne kb k3 (by decide))
  · have ki := kx i (by omega)
    exact fx _ (fun e => absurd (hD.1 i 12 (by omega) (by omega) e) (by omega)) (nq _ 5 ki (by decide) (by decide)) (jne ki k2 (by decide)) (jne ki k3 (by decide))
  · refine fx _ ?_ (fun j' hj' e => absurd (hD.2.1 i 12 j j' (by omega) (by omega) hj hj' e).1 (by omega)) ?_ (hD.2.2.1 i j (by omega) hj).2.1
    · rcases kq i j (by omega) hj with z | z
      · exact jne z (kx 12 (by omega)) (by decide)
      · exact jne z (kx 12 (by omega)) (by decide)
    · rcases kq i j (by omega) hj with z | z
      · exact jne z k2 (by decide)
      · exact jne z k2 (by decide)
def updX (X : Nat → TX) (t : Nat) (v : TX) : Nat → TX := fun i => if i = t then v else X i
theorem CS.rp2 {n hand : Int} (hS : CS I h c x q hb tp th X nb S l) (hL : CL E P h c x q t u hb) (hD : CD c x q u hb) : CS (rpM2 I (x 12) (c 2) (c 3) s (q 12) n hand) h c x q hb tp th X nb S l := by
  obtain ⟨e, e0, e6, e7, eh, ex, eq⟩ := hL.rpx hD (fun b g1 g2 g3 g4 => rpM2_x (I := I) (s := s) (n := n) (hand := hand) g1 g2 g3 g4)
  exact hS.gen e0 e6 e7 eh (by rw [e]) (by rw [e]; exact hS.2.2.1) rfl (hS.tx ex eq)
theorem CS.rp4 {n : Nat} {hand : Int} {g : Nat → Int} (hS : CS I h c x q hb tp th X nb S l) (hL : CL E P h c x q t u hb) (hD : CD c x q u hb) (ht : t0 < 12) (hs : s ≠ x 12) (hn : n ≤ 800) (hb' : ∀ k, k < n → bR (I s k) (g k)) (hg : ∀ k, k < n → 0 ≤ g k ∧ g k ≤ 255) (hh : 0 ≤ hand ∧ hand ≤ 3) (h0 : (rpR I (x 12) (c 2) (c 3) s (q 12) (n : Int) hand).1 = 0) : CS (rpM4 I (x 12) (c 2) (c 3) s (q 12) (n : Int) hand) h c (swp x t0) (swp q t0) hb tp (su th t0 1) (updX X t0 (rdT g n hand)) nb S l := by
  obtain ⟨e, e0, e6, e7, eh, ex, eq⟩ := hL.rpx hD (fun b g1 g2 g3 g4 => rpM4_x (I := I) (s := s) (n := (n : Int)) (hand := hand) g1 g2 g3 g4)
  have hx := hL.2.2.2.2.1 12 (by omega)
  have hct := (rp_ct (g := g) hL.2.2.2.2.2.1.2 hx (fun i j hi hj e => (hD.2.1 12 12 i j (by omega) (by omega) hi hj e).2) (fun j hj => (hD.2.2.1 12 j (by omega) hj).2.1) hs hn hb' hg hh h0).1
  have hw := rp_w (rd := c 2) (op := c 3) (hand := hand) hx hs hn hb'
  rw [hw.2.2.1, hw.2.2.2] at hct
  refine hS.gen e0 e6 e7 eh (by rw [e]) (by rw [e]; exact hS.2.2.1) rfl (fun i hi => ?_)
  by_cases ei : i = t0
  · subst ei
    unfold swp updX su
    rw [sw_t, if_pos rfl, if_pos rfl]
    refine ⟨?_, fun _ => hct⟩
    unfold rpM4
    rw [jput_s]
  · have g := hS.tx ex eq i hi
    unfold swp updX su
    rw [sw_o ei hi, if_neg ei, if_neg ei]
    exact g
end JSwp
