section JTk3
variable {E : jE} {I I' J : jI} {P P' : jP} {d h m : Nat} {c x t hb a : Nat → Nat} {q u : Nat → Nat → Nat} {C : Nat → Prop} {tp l : List Int} {th nb nb' : Nat → Int} {X : Nat → TX} {S : Nat → Nat → Int}
/-- OUT is of this TEXT, for the reference -/
abbrev gd (nb : Nat → Int) (l : List Int) (t0 : Int) : Prop := nb 6 = t0 ∧ l.length ≠ 0 ∧ l.length ≤ 800
def tkW (l : List Int) : RdRes := rdW (gL l) l.length
def thK (th nb : Nat → Int) (l : List Int) (t0 : Int) : Nat → Int := if gd nb l t0 then thT th t0 (tkW l) else th
def XK (X : Nat → TX) (nb : Nat → Int) (l : List Int) (t0 : Int) : Nat → TX := if gd nb l t0 then XT X t0 (tkW l) (rdT (gL l) l.length (xH (X t0.toNat))) else X
def nbK (nb : Nat → Int) (l : List Int) (t0 : Int) : Nat → Int := fun j => if j = 6 ∧ gd nb l t0 then -1 else if j = 5 ∧ gd nb l t0 ∧ (tkW l).1 = 0 then -1 else nb j
theorem nbK_o {t0 : Int} {j : Nat} (h5 : j ≠ 5) (h6 : j ≠ 6) : nbK nb l t0 j = nb j := by unfold nbK; rw [if_neg (fun z => h6 z.1), if_neg (fun z => h5 z.1)]
theorem WS.take {t0 : Int} (hW : WS tp th X nb l) (hc : thr th t0) : WS tp (thK th nb l t0) (XK X nb l t0) (nbK nb l t0) l := by
  obtain ⟨c1, c2, c3⟩ := hc
  obtain ⟨a1, a2, a3, a4, a5⟩ := hW
  have hh := (a2 t0.toNat (by omega)).2 c3
  refine ⟨a1, fun i hi => ?_, ?_, a4, ?_⟩
  · unfold thK XK
    by_cases g : gd nb l t0
    · rw [if_pos g, if_pos g]
      unfold thT XT
      by_cases h0 : (tkW l).1 = 0
      · rw [if_pos h0, if_pos h0]
        unfold su updX
        by_cases e : i = t0.toNat
        · rw [if_pos e, if_pos e]
          exact ⟨Or.inr rfl, fun _ => rdT_ok g.2.2 (byt_at a4.2) hh.2.2.1 h0⟩
        · rw [if_neg e, if_neg e]
          exact a2 i hi
      · rw [if_neg h0, if_neg h0]
        exact a2 i hi
    · rw [if_neg g, if_neg g]
      exact a2 i hi
  · rw [nbK_o (by decide) (by decide), nbK_o (by decide) (by decide)]
    exact a3
  · unfold nbK
    by_cases g : gd nb l t0
    · rw [if_pos ⟨rfl, g⟩]
      by_cases h0 : (tkW l).1 = 0
      · left
        rw [if_neg (fun z => absurd z.1 (by decide)), if_pos ⟨rfl, g, h0⟩]
      · exact Or.inr ⟨rfl, bad_of a4.2 h0⟩
    · rw [if_neg (fun z => g z.2), if_neg (fun z => g z.2.1), if_neg (fun z => g z.2), if_neg (fun z => g z.2.1)]
      exact a5
theorem CS.nbc (hS : CS I h c x q hb tp th X nb S l) (e : ∀ j, j < 6 → nb' j = nb j) : CS I h c x q hb tp th X nb' S l := by
  unfold CS at *
  rw [e 0 (by decide), e 1 (by decide), e 2 (by decide), e 3 (by decide), e 4 (by decide), e 5 (by decide)]
  exact hS
theorem k_take {t0 : Int} (hl : (eX E).stackTraces = false) (hK : KS E C h c t u hb I P tp th X nb S l) (hW : WS tp th X nb l) (hd : 10 ≤ d) : jCx E yX6_take cX6_take 3 (some .boolean) d 1 [jp h, ji t0] I P (fun r I' P' => thr th t0 ∧ r = some (ji (jb (gd nb l t0 ∧ (tkW l).1 = 0))) ∧ KS E C h c t u hb I' P' tp (thK th nb l t0) (XK X nb l t0) (nbK nb l t0) S l ∧ FR C I P I' P') (jXx (¬ thr th t0) jNSE I P) := by
  obtain ⟨x, q, hL, hD, hA, hS⟩ := hK
  have hx12 := hL.2.2.2.2.1 12 (by omega)
  have hr := hL.2.2.2.2.2.1.2
  have hcts := hS.cts hW
  obtain ⟨p12, k6, hor, hra, -⟩ := hL.2.2.2.2.2.2.2.2.2
  have n13 := hS.2.2.1.2.2.2.2.2
  have hlen : (l.map jB).length = l.length := List.length_map _
  refine jCx_mono (c_take2 (w := (l.map jB, 0)) hl hL.1 hL.2.2.1.1 hL.2.2.1.2.1 hL.hts hL.2.2.2.1 hL.2.2.2.2.2.1.1 hr hx12 (fun i j hi hj e => (hD.2.1 12 12 i j (by omega) (by omega) hi hj e).2) (fun j hj => (hD.2.2.1 12 j (by omega) hj).2.1) p12 k6 hor hra hS.out (fun i hi => by rw [hS.2.2.2.2.2.2 i (by rw [← hlen]; exact hi)]; exact jB_rng _) hd) ?_ ?_
  · rintro r J P' ⟨z, rfl, rfl, rfl⟩
    have zt := hS.ex.mp z
    obtain ⟨t', rfl⟩ : ∃ t' : Nat, t0 = (t' : Int) := ⟨t0.toNat, by have := z.1; omega⟩
    have ht : t' < 12 := by have := z.2.1; omega
    simp only [hlen, Int.toNat_natCast, n13]
    have hct := hcts t' ht (by have := z.2.2; rw [Int.toNat_natCast] at this; exact this)
    have eh : I (x t') 10 = xH (X t') := hct.1.1.2.1
    rw [eh]
    have hhr := hct.2.2.2.1
    have hs0 : c 7 ≠ x 12 := jne hra.2.1 hx12.1.2 (by decide)
    have hb0 : ∀ k, k < l.length → bR (I (c 7) k) (gL l k) := fun k hk => by rw [hS.2.2.2.2.2.2 k hk]; exact bR_jB (byt_at hW.2.2.2.1.2 k hk)
    have hg0 : ∀ k, k < l.length → 0 ≤ gL l k ∧ gL l k ≤ 255 := byt_at hW.2.2.2.1.2
    have hgd : gd nb l (t' : Int) → nb 5 = (t' : Int) := fun g => by
      rcases hW.2.2.2.2 with e | ⟨e, -⟩
      · rw [← e]; exact g.1
      · have := g.1; omega
    have cx : C (x 12) := hA.2.2.1 12 (by omega)
    have cf : ∀ b, ¬ C b → b ≠ x 12 ∧ (∀ j, j ≤ 7 → b ≠ q 12 j) ∧ b ≠ c 2 ∧ b ≠ c 3 := fun b hb => ⟨fun e => hb (by rw [e]; exact cx), fun j hj e => hb (by rw [e]; exact hA.2.2.2.1 12 j (by omega) hj), fun e => hb (by rw [e]; exact hA.2.1 2 (by decide)), fun e => hb (by rw [e]; exact hA.2.1 3 (by decide))⟩
    by_cases go : nb 5 = (t' : Int) ∧ l.length ≠ 0 ∧ l.length ≤ 800
    · have hw := rp_w (rd := c 2) (op := c 3) (hand := xH (X t')) hx12 hs0 go.2.2 hb0
      have hw1 : (rpR I (x 12) (c 2) (c 3) (c 7) (q 12) (l.length : Int) (xH (X t'))).1 = (tkW l).1 := hw.1
      rw [if_pos go, if_pos go]
      by_cases h0 : (tkW l).1 = 0
      · have g : gd nb l (t' : Int) := by
          refine ⟨?_, go.2⟩
          rcases hW.2.2.2.2 with e | ⟨-, e⟩
          · rw [e]; exact go.1
          · exact absurd h0 (e (gL l) (fun _ => 0) (fun _ => 0) (fun k hk => rfl))
        have h0' : (rpR I (x 12) (c 2) (c 3) (c 7) (q 12) (l.length : Int) (xH (X t'))).1 = 0 := hw1.trans h0
        have ng : ¬ (rpR I (x 12) (c 2) (c 3) (c 7) (q 12) (l.length : Int) (xH (X t'))).1 ≠ 0 := fun y => y h0'
        have hS4 := hS.rp4 (t0 := t') hL hD ht hs0 go.2.2 hb0 hg0 hhr h0'
        have hL4 := hL.swp (t0 := t') ht
        have e13 : rpM4 I (x 12) (c 2) (c 3) (c 7) (q 12) (l.length : Int) (xH (X t')) h 13 = nb 5 := hS4.2.2.1.2.2.2.2.2
        have f4 : ∀ b, ¬ C b → rpM4 I (x 12) (c 2) (c 3) (c 7) (q 12) (l.length : Int) (xH (X t')) b = I b := fun b hb => by
          obtain ⟨g1, g2, g3, g4⟩ := cf b hb
          exact rpM4_x g1 g2 g3 g4
        unfold rpM rpP
        rw [if_neg ng, if_neg ng, e13, if_pos go.1, ← jb_t ⟨go, h0'⟩, ← jb_t ⟨g, h0⟩]
        generalize rpM4 I (x 12) (c 2) (c 3) (c 7) (q 12) (l.length : Int) (xH (X t')) = K at hS4 e13 f4
        have hPf : ∀ b, ¬ C b → jputP (jputP P (c 1) t' (some (x 12))) h 3 (some (x t')) b = P b := fun b hb => by
          funext j
          simp only [jputP]
          rw [if_neg (fun e => hb (by rw [e.1]; exact hA.1)), if_neg (fun e => hb (by rw [e.1]; exact hA.2.1 1 (by decide)))]
        have eth : thK th nb l (t' : Int) = su th t' 1 := by unfold thK thT; rw [if_pos g, if_pos h0, Int.toNat_natCast]
        have eX2 : XK X nb l (t' : Int) = updX X t' (rdT (gL l) l.length (xH (X t'))) := by unfold XK XT; rw [if_pos g, if_pos h0, Int.toNat_natCast]
        rw [eth, eX2]
        refine ⟨zt, rfl, ⟨swp x t', swp q t', hL4, hD.swp ht, hA.swp ht, ?_⟩, fun b hb => ⟨?_, hPf b hb⟩⟩
        · refine hS4.num1 hL4 (fun b hb => by funext j; exact jput_a _ hb) (jput_k _ (by decide)) ?_ (nbK_o (by decide) (by decide))
          have eK : ∀ k, k ≠ 13 → jput K h 13 (-1) h k = K h k := fun k hk => jput_k _ hk
          rw [eK 5 (by decide), eK 6 (by decide), eK 7 (by decide), eK 8 (by decide), eK 11 (by decide), jput_s, nbK_o (by decide) (by decide), nbK_o (by decide) (by decide), nbK_o (by decide) (by decide), nbK_o (by decide) (by decide), nbK_o (by decide) (by decide)]
          obtain ⟨g5, g6, g7, g8, g11, g13⟩ := hS4.2.2.1
          refine ⟨g5, g6, g7, g8, g11, ?_⟩
          unfold nbK
          rw [if_neg (fun e => absurd e.1 (by decide)), if_pos ⟨rfl, g, h0⟩]
        · have hbh : b ≠ h := fun e => hb (by rw [e]; exact hA.1)
          rw [← f4 b hb]
          funext j
          rw [jput_a _ hbh]
      · have h0' : (rpR I (x 12) (c 2) (c 3) (c 7) (q 12) (l.length : Int) (xH (X t'))).1 ≠ 0 := by rw [hw1]; exact h0
        unfold rpM rpP
        rw [if_pos h0', if_pos h0', ← jb_f (fun y => h0' y.2), ← jb_f (fun y => h0 y.2)]
        have eth : thK th nb l (t' : Int) = th := by unfold thK thT; rw [if_neg h0]; split <;> rfl
        have eX2 : XK X nb l (t' : Int) = X := by unfold XK XT; rw [if_neg h0]; split <;> rfl
        rw [eth, eX2]
        refine ⟨zt, rfl, ⟨x, q, hL, hD, hA, (hS.rp2 hL hD).nbc (fun j hj => ?_)⟩, fun b hb => ⟨?_, rfl⟩⟩
        · unfold nbK
          rw [if_neg (fun e => absurd e.1 (by omega)), if_neg (fun e => h0 e.2.2)]
        · obtain ⟨g1, g2, g3, g4⟩ := cf b hb
          exact rpM2_x g1 g2 g3 g4
    · have ng : ¬ gd nb l (t' : Int) := fun g => go ⟨hgd g, g.2⟩
      rw [if_neg go, if_neg go, ← jb_f (fun y => go y.1), ← jb_f (fun y => ng y.1)]
      have eth : thK th nb l (t' : Int) = th := by unfold thK; rw [if_neg ng]
      have eX2 : XK X nb l (t' : Int) = X := by unfold XK; rw [if_neg ng]
      rw [eth, eX2]
      refine ⟨zt, rfl, ⟨x, q, hL, hD, hA, hS.nbc (fun j hj => ?_)⟩, FR.rf⟩
      unfold nbK
      rw [if_neg (fun e => ng e.2), if_neg (fun e => ng e.2.1)]
  · rintro v J P' ⟨z, rfl, rfl, rfl⟩
    exact ⟨fun y => z (hS.ex.mpr y), rfl, rfl, rfl⟩
theorem m_take {t0 : Int} (hR : RfL E P m a) (hS : RW I m a tp th X nb S l) (hW : WS tp th X nb l) (hd : 38 ≤ d) : jC E yX7_take cX7_take 5 (some .boolean) d [jp m, ji t0] I P (rM I P m a (thr th t0) (jb (gd nb l t0 ∧ (tkW l).1 = 0)) 1 (fun I' => RW I' m a tp (thK th nb l t0) (XK X nb l t0) (nbK nb l t0) S l) (fun I' => RW I' m a tp th X nb S l)) := by
  have e21 := hS.2.2.1.2.2.2.2.2
  refine jC_mono (r_take (l := l) (h0 := fun _ => 0) (r0 := fun _ => 0) hR hS.2.2.2.2.1 hW.2.2.2.1.1 hS.2.2.2.2.2 (byt_at hW.2.2.2.1.2) hd) ?_
  rintro v J P' ⟨rfl, z⟩
  rw [e21] at z
  rcases z with ⟨z1, rfl, rfl⟩ | ⟨z1, z2, rfl, rfl⟩ | ⟨z1, z2, g, eg, hq⟩
  · exact ⟨rfl, fun b h1 _ => by funext j; exact jput_a _ h1, Or.inr ⟨fun y => z1 (hS.ex.mpr y), ⟨_, rfl⟩, jput_s _ _ _ _, hS.p0 hR _⟩⟩
  · have ng : ¬ gd nb l t0 := z2
    refine ⟨rfl, fun b h1 _ => by funext j; exact jput_a _ h1, Or.inl ⟨hS.ex.mp z1, by rw [← jb_f (fun y => ng y.1)], jput_s _ _ _ _, ?_⟩⟩
    have h0 := hS.p0 hR 0
    have eth : thK th nb l t0 = th := by unfold thK; rw [if_neg ng]
    have eX2 : XK X nb l t0 = X := by unfold XK; rw [if_neg ng]
    have en : nbK nb l t0 = nb := by funext j; unfold nbK; rw [if_neg (fun e => ng e.2), if_neg (fun e => ng e.2.1)]
    rw [eth, eX2, en]
    exact h0
  · have zt := hS.ex.mp z1
    have gg : gd nb l t0 := z2
    obtain ⟨t', rfl⟩ : ∃ t' : Nat, t0 = (t' : Int) := ⟨t0.toNat, by have := z1.1; omega⟩
    have ht : t' < 12 := by have := z1.2.1; omega
    rw [Int.toNat_natCast] at hq
    have eW : rdGo g l.length 201 (rdS0 (fun _ => 0)) (fun _ => 0) [] = rdW (gL l) l.length := rdW_cg (g := gL l) (byt_at hW.2.2.2.1.2) eg _ _
    obtain ⟨q1, q2, q3, q4, q5⟩ := hq
    have e8 : I (a 8) t' = xH (X t') := ((hS.2.1 t' ht).2 (by have := zt.2.2; rw [Int.toNat_natCast] at this; exact this)).2.1
    rw [e8] at q2
    have hT := hS.rd hW ht eW eg q2
    have er : ∀ j, j ∈ rfK → (j < 5 ∨ 15 < j) → J (a j) = I (a j) := fun j hj h1 => q2.1 _ (hR.nm hj) (fun i g1 g2 => hR.d hj (rfK_515 i g1 g2) (by omega))
    have ev : jb ((rdGo g l.length 201 (rdS0 (fun _ => 0)) (fun _ => 0) []).1 = 0) = jb (gd nb l (t' : Int) ∧ (tkW l).1 = 0) := by
      rw [eW]
      by_cases h0 : (tkW l).1 = 0
      · exact (jb_t h0).symm.trans (jb_t ⟨gg, h0⟩)
      · exact (jb_f h0).symm.trans (jb_f (fun y => h0 y.2))
    have eth : thK th nb l (t' : Int) = thT th (t' : Int) (rdW (gL l) l.length) := by unfold thK tkW; rw [if_pos gg]
    have eX2 : XK X nb l (t' : Int) = XT X (t' : Int) (rdW (gL l) l.length) (rdT (gL l) l.length (xH (X t'))) := by unfold XK tkW; rw [if_pos gg, Int.toNat_natCast]
    refine ⟨rfl, fun b h1 h2 => q2.1 b h1 (fun j g1 g2 => h2 j (rfK_515 j g1 g2)), Or.inl ⟨zt, by rw [q1, ev], q4, ?_⟩⟩
    rw [eth, eX2]
    obtain ⟨b1, b2, ⟨b3, b4, b5, b6, b7, b8⟩, b9, b10⟩ := hS
    refine ⟨⟨by rw [q3 2 (by omega)]; exact b1.1, fun k hk => by rw [er 1 (by decide) (by decide)]; exact b1.2 k hk⟩, hT, ⟨?_, ?_, ?_, ?_, ?_, ?_⟩, fun h4 k j g1 g2 => ?_, ?_, fun k hk => ?_⟩
    · rw [q3 3 (by omega), nbK_o (by decide) (by decide)]; exact b3
    · rw [q3 4 (by omega), nbK_o (by decide) (by decide)]; exact b4
    · rw [er 17 (by decide) (by decide), nbK_o (by decide) (by decide)]; exact b5
    · rw [er 17 (by decide) (by decide), nbK_o (by decide) (by decide)]; exact b6
    · rw [q3 16 (by omega), nbK_o (by decide) (by decide)]; exact b7
    · rw [q5]; unfold nbK; rw [if_pos ⟨rfl, gg⟩]
    · rw [er 18 (by decide) (by decide)]
      exact b9 (by rw [nbK_o (by decide) (by decide)] at h4; exact h4) k j g1 g2
    · rw [q3 20 (by omega)]; exact b10.1
    · rw [er 19 (by decide) (by decide)]; exact b10.2 k hk
end JTk3
