section JTx2
variable {E : jE} {I I' J : jI} {P P' : jP} {d h m : Nat} {c x t hb a : Nat → Nat} {q u : Nat → Nat → Nat} {C : Nat → Prop} {tp l : List Int} {th nb : Nat → Int} {X : Nat → TX} {S : Nat → Nat → Int}
theorem byt_at {l : List Int} (hb : byt l) : ∀ k, k < l.length → 0 ≤ l.getD k 0 ∧ l.getD k 0 ≤ 255 := fun k hk => hb _ (by
  rw [List.getD_eq_getElem?_getD, List.getElem?_eq_getElem hk]
  exact List.getElem_mem _)
/-- the bytes of a list -/
def gL (l : List Int) : Nat → Int := fun k => l.getD k 0
/-! text -/
def thT (th : Nat → Int) (t0 : Int) (W : RdRes) : Nat → Int := if W.1 = 0 then su th t0.toNat 1 else th
def XT (X : Nat → TX) (t0 : Int) (W : RdRes) (v : TX) : Nat → TX := if W.1 = 0 then updX X t0.toNat v else X
def nbT (nb : Nat → Int) (t0 : Int) (W : RdRes) : Nat → Int := fun j => if j = 0 then W.1 else if j = 1 then (if W.1 = 0 then -1 else W.2.1 7) else if W.1 = 0 then nbD nb t0 j else nb j
theorem nbT_o {t0 : Int} {W : RdRes} {j : Nat} (h0 : j ≠ 0) (h1 : j ≠ 1) (h5 : j ≠ 5) (h6 : j ≠ 6) : nbT nb t0 W j = nb j := by
  unfold nbT
  rw [if_neg h0, if_neg h1, nbD_o h5 h6]
  split <;> rfl
theorem nbT_5 {t0 : Int} {W : RdRes} : nbT nb t0 W 5 = (if W.1 = 0 then nbD nb t0 5 else nb 5) := by simp [nbT]
theorem nbT_6 {t0 : Int} {W : RdRes} : nbT nb t0 W 6 = (if W.1 = 0 then nbD nb t0 6 else nb 6) := by simp [nbT]
theorem nbT_1 {t0 : Int} {W : RdRes} : nbT nb t0 W 1 = (if W.1 = 0 then -1 else W.2.1 7) := by simp [nbT]
theorem nbT_0 {t0 : Int} {W : RdRes} : nbT nb t0 W 0 = W.1 := by simp [nbT]
def tCnd (tp : List Int) (t0 hand n : Int) : Prop := (0 ≤ t0 ∧ t0 < 12) ∧ (0 ≤ hand ∧ hand ≤ 3) ∧ 0 ≤ n ∧ n ≤ (tp.length : Int)
theorem WS.text {t0 hand n : Int} (hW : WS tp th X nb l) (hc : tCnd tp t0 hand n) : WS [] (thT th t0 (rdW (gL tp) n.toNat)) (XT X t0 (rdW (gL tp) n.toNat) (rdT (gL tp) n.toNat hand)) (nbT nb t0 (rdW (gL tp) n.toNat)) l := by
  obtain ⟨c1, c2, c3, c4⟩ := hc
  have hl := hW.1.1
  have hg := byt_at hW.1.2
  have hd := (hW.drop (t0 := t0)).2.2.2.2
  have ok : (rdW (gL tp) n.toNat).1 = 0 → WX (rdT (gL tp) n.toNat hand) := fun h => rdT_ok (by omega) (fun k hk => hg k (by omega)) c2 h
  obtain ⟨-, a2, a3, a4, a5⟩ := hW
  generalize rdT (gL tp) n.toNat hand = v at ok
  generalize rdW (gL tp) n.toNat = W at ok
  refine ⟨⟨by decide, fun b hb => absurd hb (List.not_mem_nil)⟩, fun i hi => ?_, ?_, a4, ?_⟩
  · unfold thT XT
    by_cases h0 : W.1 = 0
    · rw [if_pos h0, if_pos h0]
      unfold su updX
      by_cases e : i = t0.toNat
      · rw [if_pos e, if_pos e]
        exact ⟨Or.inr rfl, fun _ => ok h0⟩
      · rw [if_neg e, if_neg e]
        exact a2 i hi
    · rw [if_neg h0, if_neg h0]
      exact a2 i hi
  · rw [nbT_o (by decide) (by decide) (by decide) (by decide), nbT_o (by decide) (by decide) (by decide) (by decide)]
    exact a3
  · rw [nbT_5, nbT_6]
    by_cases h0 : W.1 = 0
    · rw [if_pos h0, if_pos h0]
      exact hd
    · rw [if_neg h0, if_neg h0]
      exact a5
theorem k_text {t0 hand n : Int} (hl : (eX E).stackTraces = false) (hK : KS E C h c t u hb I P tp th X nb S l) (hW : WS tp th X nb l) (hd : 10 ≤ d) : jCx E yX6_text cX6_text 4 (some .int) d 1 [jp h, ji t0, ji hand, ji n] I P (fun r I' P' => tCnd tp t0 hand n ∧ r = some (ji (rdW (gL tp) n.toNat).1) ∧ KS E C h c t u hb I' P' [] (thT th t0 (rdW (gL tp) n.toNat)) (XT X t0 (rdW (gL tp) n.toNat) (rdT (gL tp) n.toNat hand)) (nbT nb t0 (rdW (gL tp) n.toNat)) S l ∧ FR C I P I' P') (jXx (¬ tCnd tp t0 hand n) jIAE I P) := by
  obtain ⟨x, q, hL, hD, hA, hS⟩ := hK
  have h1 := hS.1.1
  have hle := hW.1.1
  have hx12 := hL.2.2.2.2.1 12 (by omega)
  have hr := hL.2.2.2.2.2.1.2
  refine jCx_mono (c_text hl hL.1 hL.2.1.1 hL.2.1.2 hL.2.2.1.1 hL.2.2.1.2.1 hL.hts hL.2.2.2.1 hL.2.2.2.2.2.1.1 hr hx12 (fun i j hi hj e => (hD.2.1 12 12 i j (by omega) (by omega) hi hj e).2) (fun j hj => (hD.2.2.1 12 j (by omega) hj).2.1) hS.1.2.2 (by omega) hd) ?_ ?_
  · rintro r J P' ⟨z, rfl, rfl, rfl⟩
    rw [h1] at z
    have z0 := z
    obtain ⟨c1, c2, c3, c4⟩ := z
    obtain ⟨n', rfl⟩ : ∃ n' : Nat, n = (n' : Int) := ⟨n.toNat, by omega⟩
    obtain ⟨t', rfl⟩ : ∃ t' : Nat, t0 = (t' : Int) := ⟨t0.toNat, by omega⟩
    rw [Int.toNat_natCast, Int.toNat_natCast]
    have ht : t' < 12 := by omega
    have k0 : eK E (c 0) = 8 := hL.2.1.2.2.1
    have hs0 : c 0 ≠ x 12 := jne k0 hx12.1.2 (by decide)
    -- the memory ahead of the reading
    have hS1 : CS (jput I h 1 0) h c x q hb [] th X nb S l := hS.num hL (fun b hb => by funext j; exact jput_a _ hb) (jput_s _ _ _ _) (fun k hk => absurd hk (Nat.not_lt_zero k)) (by rw [jput_k _ (by decide), jput_k _ (by decide), jput_k _ (by decide), jput_k _ (by decide), jput_k _ (by decide), jput_k _ (by decide)]; exact hS.2.2.1) rfl
    have hb0 : ∀ k, k < n' → bR (jput I h 1 0 (c 0) k) (gL tp k) := fun k hk => by rw [jput_a _ hL.ch.1]; exact hS.1.2.1 k (by omega)
    have hg0 : ∀ k, k < n' → 0 ≤ gL tp k ∧ gL tp k ≤ 255 := fun k hk => byt_at hW.1.2 k (by omega)
    have hF1 : FR C I P (jput I h 1 0) P := FR.put hA.1
    have hw := rp_w (rd := c 2) (op := c 3) (hand := hand) hx12 hs0 (by omega) hb0
    have hrd : c 2 ≠ x 12 := jne hr.1.2 hx12.1.2 (by decide)
    have hrq : ∀ j, j ≤ 7 → c 2 ≠ q 12 j := fun j hj => by
      rcases hx12.kq j hj with e | e
      · exact jne hr.1.2 e (by decide)
      · exact jne hr.1.2 e (by decide)
    have hrh : c 2 ≠ h := jne hr.1.2 hL.1.2 (by decide)
    have cx : C (x 12) := hA.2.2.1 12 (by omega)
    have cf : ∀ b, ¬ C b → b ≠ x 12 ∧ (∀ j, j ≤ 7 → b ≠ q 12 j) ∧ b ≠ c 2 ∧ b ≠ c 3 := fun b hb => ⟨fun e => hb (by rw [e]; exact cx), fun j hj e => hb (by rw [e]; exact hA.2.2.2.1 12 j (by omega) hj), fun e => hb (by rw [e]; exact hA.2.1 2 (by decide)), fun e => hb (by rw [e]; exact hA.2.1 3 (by decide))⟩
    -- two numbers more
    have fin : ∀ (K : jI) (x' : Nat → Nat) (q' : Nat → Nat → Nat) (th' : Nat → Int) (X' : Nat → TX) (nb1 : Nat → Int) (Q : jP), CL E Q h c x' q' t u hb → CS K h c x' q' hb [] th' X' nb1 S l → nb1 4 = nb 4 → (∀ v1 v2, v1 = nbT nb (t' : Int) (rdW (gL tp) n') 0 → v2 = nbT nb (t' : Int) (rdW (gL tp) n') 1 → (nb1 2 = nb 2 ∧ nb1 3 = nb 3 ∧ nb1 5 = nbT nb (t' : Int) (rdW (gL tp) n') 5) → CS (jput (jput K h 5 v1) h 6 v2) h c x' q' hb [] th' X' (nbT nb (t' : Int) (rdW (gL tp) n')) S l) := by
      intro K x' q' th' X' nb1 Q hL' hK' h4 v1 v2 hv1 hv2 ⟨h2, h3, h5⟩
      have eK : ∀ k, k ≠ 5 → k ≠ 6 → jput (jput K h 5 v1) h 6 v2 h k = K h k := fun k g1 g2 => by rw [jput_k _ g2, jput_k _ g1]
      refine hK'.num1 hL' (fun b hb => by funext j; rw [jput_a _ hb, jput_a _ hb]) (eK 1 (by decide) (by decide)) ?_ (by rw [nbT_o (by decide) (by decide) (by decide) (by decide), h4])
      obtain ⟨g5, g6, g7, g8, g11, g13⟩ := hK'.2.2.1
      rw [eK 7 (by decide) (by decide), eK 8 (by decide) (by decide), eK 11 (by decide) (by decide), eK 13 (by decide) (by decide), jput_s, jput_k _ (by decide), jput_s, g7, g8, g11, g13, h2, h3, h4, h5, nbT_o (j := 2) (by decide) (by decide) (by decide) (by decide), nbT_o (j := 3) (by decide) (by decide) (by decide) (by decide), nbT_o (j := 4) (by decide) (by decide) (by decide) (by decide)]
      exact ⟨hv1, hv2, rfl, rfl, rfl, rfl⟩
    unfold txM rpM rpP
    by_cases h0 : (rdW (gL tp) n').1 = 0
    · have h0' : (rpR (jput I h 1 0) (x 12) (c 2) (c 3) (c 0) (q 12) (n' : Int) hand).1 = 0 := hw.1.trans h0
      have ng : ¬ (rpR (jput I h 1 0) (x 12) (c 2) (c 3) (c 0) (q 12) (n' : Int) hand).1 ≠ 0 := fun y => y h0'
      rw [if_neg ng, if_neg ng, hw.1]
      have hS4 := hS1.rp4 (t0 := t') hL hD ht hs0 (by omega) hb0 hg0 c2 h0'
      have hL4 := hL.swp (t0 := t') ht
      have e13 : rpM4 (jput I h 1 0) (x 12) (c 2) (c 3) (c 0) (q 12) (n' : Int) hand h 13 = nb 5 := hS4.2.2.1.2.2.2.2.2
      have e7 : rpM4 (jput I h 1 0) (x 12) (c 2) (c 3) (c 0) (q 12) (n' : Int) hand (c 2) 7 = -1 := by
        rw [rpM4_7 hrd hrq, hw.2.1]
        exact rd_7 201 _ _ _ rfl h0
      have f4 : ∀ b, ¬ C b → rpM4 (jput I h 1 0) (x 12) (c 2) (c 3) (c 0) (q 12) (n' : Int) hand b = I b := fun b hb => by
        obtain ⟨g1, g2, g3, g4⟩ := cf b hb
        rw [rpM4_x g1 g2 g3 g4]
        exact (hF1 b hb).1
      generalize rpM4 (jput I h 1 0) (x 12) (c 2) (c 3) (c 0) (q 12) (n' : Int) hand = K at hS4 e13 e7 f4
      have hPf : ∀ b, ¬ C b → jputP (jputP P (c 1) t' (some (x 12))) h 3 (some (x t')) b = P b := fun b hb => by
        funext j
        simp only [jputP]
        rw [if_neg (fun e => hb (by rw [e.1]; exact hA.1)), if_neg (fun e => hb (by rw [e.1]; exact hA.2.1 1 (by decide)))]
      have ev1 : (0 : Int) = nbT nb (t' : Int) (rdW (gL tp) n') 0 := by rw [nbT_0]; exact h0.symm
      have ev2 : (-1 : Int) = nbT nb (t' : Int) (rdW (gL tp) n') 1 := by rw [nbT_1, if_pos h0]
      have e5 : nbT nb (t' : Int) (rdW (gL tp) n') 5 = if nb 5 = (t' : Int) then -1 else nb 5 := by
        rw [nbT_5, if_pos h0]
        unfold nbD
        by_cases y : nb 5 = (t' : Int)
        · rw [if_pos ⟨rfl, y⟩, if_pos y]
        · rw [if_neg (fun e => y e.2), if_neg (fun e => absurd e.1 (by decide)), if_neg y]
      have eth : thT th (t' : Int) (rdW (gL tp) n') = su th t' 1 := by unfold thT; rw [if_pos h0, Int.toNat_natCast]
      have eX2 : XT X (t' : Int) (rdW (gL tp) n') (rdT (gL tp) n' hand) = updX X t' (rdT (gL tp) n' hand) := by unfold XT; rw [if_pos h0, Int.toNat_natCast]
      rw [e13, eth, eX2, h0]
      by_cases y : nb 5 = (t' : Int)
      · rw [if_pos y] at e5 ⊢
        have hS5 : CS (jput K h 13 (-1)) h c (swp x t') (swp q t') hb [] (su th t' 1) (updX X t' (rdT (gL tp) n' hand)) (su nb 5 (-1)) S l := by
          refine hS4.num1 hL4 (fun b hb => by funext j; exact jput_a _ hb) (jput_k _ (by decide)) ?_ rfl
          have eK : ∀ k, k ≠ 13 → jput K h 13 (-1) h k = K h k := fun k hk => jput_k _ hk
          rw [eK 5 (by decide), eK 6 (by decide), eK 7 (by decide), eK 8 (by decide), eK 11 (by decide), jput_s]
          obtain ⟨g5, g6, g7, g8, g11, g13⟩ := hS4.2.2.1
          exact ⟨g5, g6, g7, g8, g11, rfl⟩
        have e7' : jput K h 13 (-1) (c 2) 7 = -1 := by rw [jput_a _ hrh]; exact e7
        rw [e7']
        refine ⟨z0, rfl, ⟨swp x t', swp q t', hL4, hD.swp ht, hA.swp ht, fin _ _ _ _ _ _ _ hL4 hS5 rfl _ _ ev1 ev2 ⟨rfl, rfl, e5.symm⟩⟩, fun b hb => ⟨?_, hPf b hb⟩⟩
        have hbh : b ≠ h := fun e => hb (by rw [e]; exact hA.1)
        rw [← f4 b hb]
        funext j
        rw [jput_a _ hbh, jput_a _ hbh, jput_a _ hbh]
      · rw [if_neg y] at e5 ⊢
        rw [e7]
        refine ⟨z0, rfl, ⟨swp x t', swp q t', hL4, hD.swp ht, hA.swp ht, fin _ _ _ _ _ _ _ hL4 hS4 rfl _ _ ev1 ev2 ⟨rfl, rfl, e5.symm⟩⟩, fun b hb => ⟨?_, hPf b hb⟩⟩
        have hbh : b ≠ h := fun e => hb (by rw [e]; exact hA.1)
        rw [← f4 b hb]
        funext j
        rw [jput_a _ hbh, jput_a _ hbh]
    · have h0' : (rpR (jput I h 1 0) (x 12) (c 2) (c 3) (c 0) (q 12) (n' : Int) hand).1 ≠ 0 := by rw [hw.1]; exact h0
      rw [if_pos h0', if_pos h0', hw.1, rpM2_7, hw.2.1]
      have hS2 : CS (rpM2 (jput I h 1 0) (x 12) (c 2) (c 3) (c 0) (q 12) (n' : Int) hand) h c x q hb [] th X nb S l := hS1.rp2 hL hD
      have f2 : ∀ b, ¬ C b → rpM2 (jput I h 1 0) (x 12) (c 2) (c 3) (c 0) (q 12) (n' : Int) hand b = I b := fun b hb => by
        obtain ⟨g1, g2, g3, g4⟩ := cf b hb
        rw [rpM2_x g1 g2 g3 g4]
        exact (hF1 b hb).1
      have eth : thT th (t' : Int) (rdW (gL tp) n') = th := by unfold thT; rw [if_neg h0]
      have eX2 : XT X (t' : Int) (rdW (gL tp) n') (rdT (gL tp) n' hand) = X := by unfold XT; rw [if_neg h0]
      have ev2 : (rdW (gL tp) n').2.1 7 = nbT nb (t' : Int) (rdW (gL tp) n') 1 := by rw [nbT_1, if_neg h0]
      have e5 : nb 5 = nbT nb (t' : Int) (rdW (gL tp) n') 5 := by rw [nbT_5, if_neg h0]
      rw [eth, eX2]
      refine ⟨z0, rfl, ⟨x, q, hL, hD, hA, fin _ _ _ _ _ _ _ hL hS2 rfl _ _ nbT_0.symm ev2 ⟨rfl, rfl, e5⟩⟩, fun b hb => ⟨?_, rfl⟩⟩
      have hbh : b ≠ h := fun e => hb (by rw [e]; exact hA.1)
      rw [← f2 b hb]
      funext j
      rw [jput_a _ hbh, jput_a _ hbh]
  · rintro v J P' ⟨z, rfl, rfl, rfl⟩
    refine ⟨fun y => z ?_, rfl, rfl, rfl⟩
    rw [h1]
    exact y
end JTx2
