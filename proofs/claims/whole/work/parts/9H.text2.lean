section JTx3
variable {E : jE} {I I' J : jI} {P P' : jP} {d h m : Nat} {c x t hb a : Nat → Nat} {q u : Nat → Nat → Nat} {C : Nat → Prop} {tp l : List Int} {th nb : Nat → Int} {X : Nat → TX} {S : Nat → Nat → Int}
theorem nbD_6 {t0 : Int} : nbD nb t0 6 = if nb 6 = t0 then -1 else nb 6 := by simp [nbD]
theorem nbD_5 {t0 : Int} : nbD nb t0 5 = if nb 5 = t0 then -1 else nb 5 := by simp [nbD]
/-- the TEXTS behind a reading of the reference -/
theorem RW.rd {t0 n : Nat} {hand : Int} {g g' : Nat → Int} {W : RdRes} (hS : RW I m a tp th X nb S l) (hW : WS tp th X nb l) (ht : t0 < 12) (eW : W = rdW g n) (eg : ∀ k, k < n → g' k = g k) (h : rdP I m a t0 W (n, g', hand, W.2.2.2.1, W.2.1 6) I') : ∀ i, i < 12 → I' (a 5) i = thT th (t0 : Int) (rdW g n) i ∧ (thT th (t0 : Int) (rdW g n) i ≠ 0 → RT I' a i (XT X (t0 : Int) (rdW g n) (rdT g n hand) i)) := by
  obtain ⟨-, h2, h3, h4⟩ := h
  intro i hi
  unfold thT XT
  rw [Int.toNat_natCast]
  by_cases e : i = t0
  · subst e
    by_cases h0 : (rdW g n).1 = 0
    · rw [if_pos h0, if_pos h0]
      have g2 := h2 (by rw [eW]; exact h0)
      unfold su updX
      rw [if_pos rfl, if_pos rfl]
      exact ⟨g2.2, fun _ => g2.1.fg eg (by rw [eW]) (by rw [eW])⟩
    · rw [if_neg h0, if_neg h0]
      have g3 := h3 (by rw [eW]; exact h0)
      rw [g3.1, (hS.2.1 i hi).1]
      exact ⟨rfl, fun z => g3.2 _ ((hW.2.1 i hi).2 z) ((hS.2.1 i hi).2 z)⟩
  · have g4 := h4 i hi e
    have e1 : (if (rdW g n).1 = 0 then su th t0 1 else th) i = th i := by
      split
      · simp [su, e]
      · rfl
    have e2 : (if (rdW g n).1 = 0 then updX X t0 (rdT g n hand) else X) i = X i := by
      split
      · simp [updX, e]
      · rfl
    rw [e1, e2, g4.1, (hS.2.1 i hi).1]
    exact ⟨rfl, fun z => g4.2 _ ((hW.2.1 i hi).2 z) ((hS.2.1 i hi).2 z)⟩
theorem m_text {t0 hand n : Int} (hR : RfL E P m a) (hS : RW I m a tp th X nb S l) (hW : WS tp th X nb l) (hd : 38 ≤ d) : jC E yX7_text cX7_text 5 (some .int) d [jp m, ji t0, ji hand, ji n] I P (rM I P m a (tCnd tp t0 hand n) (rdW (gL tp) n.toNat).1 1 (fun I' => RW I' m a [] (thT th t0 (rdW (gL tp) n.toNat)) (XT X t0 (rdW (gL tp) n.toNat) (rdT (gL tp) n.toNat hand)) (nbT nb t0 (rdW (gL tp) n.toNat)) S l) (fun I' => RW I' m a tp th X nb S l)) := by
  refine jC_mono (r_text (l := tp) (h0 := fun _ => 0) (r0 := fun _ => 0) hR hS.1.1 hW.1.1 hS.1.2 (byt_at hW.1.2) hd) ?_
  rintro v J P' ⟨rfl, z⟩
  rcases z with ⟨z1, rfl, rfl⟩ | ⟨z1, g, eg, hq⟩
  · exact ⟨rfl, fun b h1 _ => by funext j; exact jput_a _ h1, Or.inr ⟨z1, ⟨_, rfl⟩, jput_s _ _ _ _, hS.p0 hR _⟩⟩
  · have z0 : tCnd tp t0 hand n := z1
    obtain ⟨c1, c2, c3, c4⟩ := z1
    obtain ⟨t', rfl⟩ : ∃ t' : Nat, t0 = (t' : Int) := ⟨t0.toNat, by omega⟩
    rw [Int.toNat_natCast] at hq
    have eW : rdGo g n.toNat 201 (rdS0 (fun _ => 0)) (fun _ => 0) [] = rdW (gL tp) n.toNat := rdW_cg (g := gL tp) (fun k hk => byt_at hW.1.2 k (by omega)) eg _ _
    obtain ⟨q1, q2, q3, q4, q5, q6, q7, q8⟩ := hq
    have hT := hS.rd hW (show t' < 12 by omega) eW eg q2
    rw [eW] at q1 q2 q6 q7 q8
    have er : ∀ j, j ∈ rfK → (j < 5 ∨ 15 < j) → J (a j) = I (a j) := fun j hj h1 => q2.1 _ (hR.nm hj) (fun i g1 g2 => hR.d hj (rfK_515 i g1 g2) (by omega))
    refine ⟨rfl, fun b h1 h2 => q2.1 b h1 (fun j g1 g2 => h2 j (rfK_515 j g1 g2)), Or.inl ⟨z0, q1, q4, ?_⟩⟩
    generalize rdW (gL tp) n.toNat = W at *
    generalize rdT (gL tp) n.toNat hand = v at *
    obtain ⟨b1, b2, ⟨b3, b4, b5, b6, b7, b8⟩, b9, b10⟩ := hS
    show RW J m a [] (thT th (t' : Int) W) (XT X (t' : Int) W v) (nbT nb (t' : Int) W) S l
    refine ⟨⟨q5, fun k hk => absurd hk (Nat.not_lt_zero k)⟩, hT, ⟨by rw [nbT_0]; exact q6, by rw [nbT_1]; exact q7, ?_, ?_, ?_, ?_⟩, fun h4 k j g1 g2 => ?_, ?_, fun k hk => ?_⟩
    · rw [er 17 (by decide) (by decide), nbT_o (by decide) (by decide) (by decide) (by decide)]; exact b5
    · rw [er 17 (by decide) (by decide), nbT_o (by decide) (by decide) (by decide) (by decide)]; exact b6
    · rw [q3 16 (by omega), nbT_o (by decide) (by decide) (by decide) (by decide)]; exact b7
    · rw [q8, nbT_6, b8]
      by_cases h0 : W.1 = 0
      · rw [if_pos h0, nbD_6]
        by_cases y : nb 6 = (t' : Int)
        · rw [if_pos y, if_pos ⟨h0, y⟩]
        · rw [if_neg y, if_neg (fun e => y e.2)]
      · rw [if_neg h0, if_neg (fun e => h0 e.1)]
    · rw [er 18 (by decide) (by decide)]
      exact b9 (by rw [nbT_o (by decide) (by decide) (by decide) (by decide)] at h4; exact h4) k j g1 g2
    · rw [q3 20 (by omega)]; exact b10.1
    · rw [er 19 (by decide) (by decide)]; exact b10.2 k hk
end JTx3
