section JMv2
variable {E : jE} {I I' : jI} {P P' : jP} {d h m : Nat} {c x t hb a : Nat → Nat} {q u : Nat → Nat → Nat} {C : Nat → Prop} {tp l : List Int} {th nb : Nat → Int} {X : Nat → TX} {S : Nat → Nat → Int}
theorem CS.gen {x' : Nat → Nat} {q' : Nat → Nat → Nat} {th' nb' : Nat → Int} {X' : Nat → TX} (hS : CS I h c x q hb tp th X nb S l) (e0 : I' (c 0) = I (c 0)) (e6 : I' (c 6) = I (c 6)) (e7 : I' (c 7) = I (c 7)) (eh : ∀ k, k < 16 → I' (hb k) = I (hb k)) (h1 : I' h 1 = I h 1) (h2 : I' h 5 = nb' 0 ∧ I' h 6 = nb' 1 ∧ I' h 7 = nb' 2 ∧ I' h 8 = nb' 3 ∧ I' h 11 = nb' 4 ∧ I' h 13 = nb' 5) (h4 : nb' 4 = nb 4) (ht : ∀ i, i < 12 → I' (x' i) 8 = th' i ∧ (th' i ≠ 0 → CT I' (x' i) (q' i) (X' i))) : CS I' h c x' q' hb tp th' X' nb' S l := by
  unfold CS at *
  rw [e0, e6, e7, h1]
  exact ⟨hS.1, ht, h2, fun z k j hk hj => by rw [eh k hk]; exact hS.2.2.2.1 (by rw [← h4]; exact z) k j hk hj, hS.2.2.2.2⟩
theorem CS.tx (hS : CS I h c x q hb tp th X nb S l) (ex : ∀ i, i < 12 → I' (x i) = I (x i)) (eq : ∀ i j, i < 12 → j ≤ 7 → I' (q i j) = I (q i j)) : ∀ i, i < 12 → I' (x i) 8 = th i ∧ (th i ≠ 0 → CT I' (x i) (q i) (X i)) := fun i hi => by
  rw [ex i hi]
  exact ⟨(hS.2.1 i hi).1, fun z => ((hS.2.1 i hi).2 z).cg (fun k _ _ => by rw [ex i hi]) (fun j hj => eq i j hi hj)⟩
/-! drop -/
def thD (th : Nat → Int) (t0 : Int) : Nat → Int := su th t0.toNat 0
def nbD (nb : Nat → Int) (t0 : Int) : Nat → Int := fun j => if j = 5 ∧ nb 5 = t0 then -1 else if j = 6 ∧ nb 6 = t0 then -1 else nb j
theorem nbD_o {t0 : Int} {j : Nat} (h5 : j ≠ 5) (h6 : j ≠ 6) : nbD nb t0 j = nb j := by unfold nbD; rw [if_neg (fun z => h5 z.1), if_neg (fun z => h6 z.1)]
theorem WS.drop {t0 : Int} (hW : WS tp th X nb l) : WS tp (thD th t0) X (nbD nb t0) l := by
  obtain ⟨a1, a2, a3, a4, a5⟩ := hW
  refine ⟨a1, fun i hi => ?_, ?_, a4, ?_⟩
  · unfold thD su
    split
    · exact ⟨Or.inl rfl, fun z => absurd rfl z⟩
    · exact a2 i hi
  · rw [nbD_o (by decide) (by decide), nbD_o (by decide) (by decide)]; exact a3
  · unfold nbD
    simp only [true_and, show ((6 : Nat) = 5) = False by simp, false_and, if_false]
    rcases a5 with z | ⟨z1, z2⟩
    · left; rw [z]; simp
    · by_cases y : nb 6 = t0
      · rw [if_pos y]; exact Or.inr ⟨rfl, z2⟩
      · rw [if_neg y]; exact Or.inr ⟨z1, z2⟩
theorem k_drop {t0 : Int} (hl : (eX E).stackTraces = false) (hK : KS E C h c t u hb I P tp th X nb S l) (hW : WS tp th X nb l) (hd : 6 ≤ d) : jCx E yX6_drop cX6_drop 3 (some .boolean) d 1 [jp h, ji t0] I P (fun r I' P' => (0 ≤ t0 ∧ t0 < 12) ∧ r = some (ji (th t0.toNat)) ∧ KS E C h c t u hb I' P' tp (thD th t0) X (nbD nb t0) S l ∧ FR C I P I' P') (jXx (¬ (0 ≤ t0 ∧ t0 < 12)) jIAE I P) := by
  obtain ⟨x, q, hL, hD, hA, hS⟩ := hK
  obtain ⟨n5, n6, n7, n8, n11, n13⟩ := hS.2.2.1
  refine jCx_mono (c_drop hl hL.1 hL.2.2.1.1 hL.2.2.1.2.1 hL.hts (fun i hi => by rw [(hS.2.1 i hi).1]; exact (hW.2.1 i hi).1) hd) ?_ (fun _ _ _ z => z)
  rintro r J P' ⟨z, rfl, rfl, rfl⟩
  have ht : t0.toNat < 12 := by omega
  rw [(hS.2.1 t0.toNat ht).1, n13]
  have hxh := hL.xh (i := t0.toNat) (by omega)
  have hK1 : CS (jput I (x t0.toNat) 8 0) h c x q hb tp (thD th t0) X nb S l := by
    have ep : ∀ b, b ≠ x t0.toNat → jput I (x t0.toNat) 8 0 b = I b := fun b hb => by funext j; exact jput_a _ hb
    have kx := (hL.2.2.2.2.1 t0.toNat (by omega)).1
    have eh : ∀ k, jput I (x t0.toNat) 8 0 h k = I h k := fun k => jput_a _ (Ne.symm hxh)
    refine hS.gen (ep _ (jne hL.2.1.2.2.1 kx.2 (by decide))) (ep _ (jne hL.2.2.2.2.2.2.2.2.2.2.1.2 kx.2 (by decide))) (ep _ (jne hL.2.2.2.2.2.2.2.2.2.2.2.2.1.2.1 kx.2 (by decide))) (fun k hk => ep _ (jne (hL.2.2.2.2.2.2.2.1.2.2 k hk).2.2 kx.2 (by decide))) (eh 1) ?_ rfl (fun i hi => ?_)
    · simp only [eh]
      exact hS.2.2.1
    · by_cases e : i = t0.toNat
      · subst e
        rw [jput_s]
        refine ⟨by simp [thD, su], fun z => absurd (by simp [thD, su]) z⟩
      · have ex := ep (x i) (fun y => e (hD.1 i t0.toNat (by omega) (by omega) y))
        have e8 : thD th t0 i = th i := by simp [thD, su, e]
        rw [ex, e8]
        refine ⟨(hS.2.1 i hi).1, fun z => ((hS.2.1 i hi).2 z).cg (fun k _ _ => by rw [ex]) (fun j hj => ep _ ?_)⟩
        rcases (hL.2.2.2.2.1 i (by omega)).kq j hj with z | z
        · exact jne z kx.2 (by decide)
        · exact jne z kx.2 (by decide)
  have hF1 : FR C I P' (jput I (x t0.toNat) 8 0) P' := FR.put (hA.2.2.1 _ (by omega))
  refine ⟨z, rfl, ⟨x, q, hL, hD, hA, ?_⟩, ?_⟩
  · obtain ⟨g5, g6, g7, g8, g11, g13⟩ := hK1.2.2.1
    by_cases y : nb 5 = t0
    · rw [if_pos y]
      refine hK1.num1 hL (fun b hb => by funext j; exact jput_a _ hb) (jput_k _ (by decide)) ?_ (nbD_o (by decide) (by decide))
      have eK : ∀ k, k ≠ 13 → jput (jput I (x t0.toNat) 8 0) h 13 (-1) h k = jput I (x t0.toNat) 8 0 h k := fun k hk => jput_k _ hk
      rw [eK 5 (by decide), eK 6 (by decide), eK 7 (by decide), eK 8 (by decide), eK 11 (by decide), jput_s, nbD_o (by decide) (by decide), nbD_o (by decide) (by decide), nbD_o (by decide) (by decide), nbD_o (by decide) (by decide), nbD_o (by decide) (by decide)]
      exact ⟨g5, g6, g7, g8, g11, by simp [nbD, y]⟩
    · rw [if_neg y]
      refine hK1.num1 hL (fun _ _ => rfl) rfl ?_ (nbD_o (by decide) (by decide))
      rw [nbD_o (by decide) (by decide), nbD_o (by decide) (by decide), nbD_o (by decide) (by decide), nbD_o (by decide) (by decide), nbD_o (by decide) (by decide)]
      exact ⟨g5, g6, g7, g8, g11, by simp [nbD, y]; exact g13⟩
  · split
    · exact hF1.tr (FR.put hA.1)
    · exact hF1
theorem m_drop {t0 : Int} (hR : RfL E P m a) (hS : RW I m a tp th X nb S l) (hW : WS tp th X nb l) (hd : 1 ≤ d) : jC E yX7_drop cX7_drop 3 (some .boolean) d [jp m, ji t0] I P (rM I P m a (0 ≤ t0 ∧ t0 < 12) (th t0.toNat) 1 (fun I' => RW I' m a tp (thD th t0) X (nbD nb t0) S l) (fun I' => RW I' m a tp th X nb S l)) := by
  refine jC_mono (r_drop hR (fun i hi => by rw [(hS.2.1 i hi).1]; exact (hW.2.1 i hi).1) hd) ?_
  rintro r J P' ⟨rfl, rfl, rfl⟩
  have hn := hR.n5
  unfold drM
  by_cases z : 0 ≤ t0 ∧ t0 < 12
  · rw [if_pos z, if_pos z]
    have ht : t0.toNat < 12 := by omega
    have h0 := hS.p0 hR 0
    have z0 : jput I m 0 0 m 0 = 0 := jput_s _ _ _ _
    have f0 : RF m a I (jput I m 0 0) := fun b h1 _ => by funext j; exact jput_a _ h1
    have e21 : I m 21 = jput I m 0 0 m 21 := (jput_k _ (by decide)).symm
    rw [e21, (hS.2.1 t0.toNat ht).1]
    clear e21
    generalize jput I m 0 0 = K at h0 z0 f0
    have em : ∀ k, jput K (a 5) t0.toNat 0 m k = K m k := fun k => jput_a _ (Ne.symm hn)
    have er : ∀ j, j ∈ rfK → j ≠ 5 → jput K (a 5) t0.toNat 0 (a j) = K (a j) := fun j hj h17 => jput_row (hR.d hj (by decide) h17)
    have f1 : RF m a I (jput K (a 5) t0.toNat 0) := fun b h1 h2 => by rw [← f0 b h1 h2]; funext j; exact jput_a _ (h2 5 (by decide))
    have h1 : RW (jput K (a 5) t0.toNat 0) m a tp (thD th t0) X nb S l := by
      unfold RW at *
      simp only [em]
      rw [er 1 (by decide) (by decide), er 17 (by decide) (by decide), er 19 (by decide) (by decide)]
      refine ⟨h0.1, fun i hi => ?_, h0.2.2.1, fun h4 k j g1 g2 => by rw [er 18 (by decide) (by decide)]; exact h0.2.2.2.1 h4 k j g1 g2, h0.2.2.2.2⟩
      by_cases e : i = t0.toNat
      · subst e
        rw [jput_s]
        exact ⟨by simp [thD, su], fun z => absurd (by simp [thD, su]) z⟩
      · have e8 : thD th t0 i = th i := by simp [thD, su, e]
        rw [jput_k _ e, e8]
        exact ⟨(h0.2.1 i hi).1, fun h5 => ((h0.2.1 i hi).2 h5).cg (fun j g1 g2 => er j (rfK_515 j (by omega) g2) (by omega))⟩
    have e21 : K m 21 = nb 6 := h0.2.2.1.2.2.2.2.2
    rw [e21]
    by_cases y : nb 6 = t0
    · rw [if_pos y]
      have er2 : ∀ j, j ∈ rfK → jput (jput K (a 5) t0.toNat 0) m 21 (-1) (a j) = jput K (a 5) t0.toNat 0 (a j) := fun j hj => jput_row (hR.nm hj)
      refine ⟨rfl, fun b g1 g2 => by rw [← f1 b g1 g2]; funext j; exact jput_a _ g1, Or.inl ⟨z, rfl, ?_, ?_⟩⟩
      · rw [jput_k _ (by decide), em]; exact z0
      · generalize jput K (a 5) t0.toNat 0 = L at h1 er2
        have eL : ∀ k, k ≠ 21 → jput L m 21 (-1) m k = L m k := fun k hk => jput_k _ hk
        unfold RW at *
        rw [er2 1 (by decide), er2 5 (by decide), er2 17 (by decide), er2 19 (by decide), eL 2 (by decide), eL 3 (by decide), eL 4 (by decide), eL 16 (by decide), eL 20 (by decide), jput_s, nbD_o (by decide) (by decide), nbD_o (by decide) (by decide), nbD_o (by decide) (by decide), nbD_o (by decide) (by decide), nbD_o (by decide) (by decide)]
        obtain ⟨b1, b2, ⟨b3, b4, b5, b6, b7, b8⟩, b9, b10⟩ := h1
        exact ⟨b1, fun i hi => ⟨(b2 i hi).1, fun h5 => ((b2 i hi).2 h5).cg (fun j g1 g2 => er2 j (rfK_515 j (by omega) g2))⟩, ⟨b3, b4, b5, b6, b7, by simp [nbD, y]⟩, fun h4 k j g1 g2 => by rw [er2 18 (by decide)]; exact b9 h4 k j g1 g2, b10⟩
    · rw [if_neg y]
      refine ⟨rfl, f1, Or.inl ⟨z, rfl, ?_, ?_⟩⟩
      · rw [em]; exact z0
      · unfold RW at *
        rw [nbD_o (by decide) (by decide), nbD_o (by decide) (by decide), nbD_o (by decide) (by decide), nbD_o (by decide) (by decide), nbD_o (by decide) (by decide), show nbD nb t0 6 = nb 6 by simp [nbD, y]]
        exact h1
  · rw [if_neg z, if_neg z]
    exact ⟨rfl, fun b h1 _ => by funext j; exact jput_a _ h1, Or.inr ⟨z, ⟨_, rfl⟩, jput_s _ _ _ _, hS.p0 hR _⟩⟩
/-! house -/
theorem hsX_th {th th' : Nat → Int} (h : ∀ t, t < 12 → th t = th' t) : ∀ (k t : Nat), t + k = 12 → hsX th X t k = hsX th' X t k
  | 0, t, _ => rfl
  | k + 1, t, ht => by rw [hsX, hsX, h t (by omega), hsX_th h k (t + 1) (by omega)]
theorem k_house (hK : KS E C h c t u hb I P tp th X nb S l) (hW : WS tp th X nb l) (hd : 4 ≤ d) : jC E yX6_house cX6_house 4 (some .int) d [jp h] I P (fun r I' P' => r = some (ji (if hsX th X 0 12 = 0 then -1 else if 0 < hsX th X 0 12 then 0 else 1)) ∧ KS E C h c t u hb I' P' tp th X nb S l ∧ FR C I P I' P') := by
  obtain ⟨x, q, hL, hD, hA, hS⟩ := hK
  have hc := hS.cts hW
  have hm := hL.2.2.2.2.2.2.2.2.1
  refine jC_mono (c_house hL.1 hm hL.ts (fun i hi => (hD.2.2.1 i 0 (by omega) (by omega)).2.2.2.1) (fun i hi h8 => (hc i hi h8).1.txi (hc i hi h8).2) hd) ?_
  rintro r J P' ⟨rfl, rfl, hf⟩
  have e := hsM_eq (I := I) (x := x) (q := q) (th := th) (X := X) (fun i hi => ⟨(hS.2.1 i hi).1, fun z => ⟨(hS.2.1 i hi).2 z, (hW.2.1 i hi).2 z⟩⟩) 12 0 (by omega)
  have k1 := hm.2.1.2
  have k9 := hm.2.2.2.2.1
  have f : ∀ b, b ≠ c 8 → b ≠ c 9 → J b = I b := fun b h1 h2 => hf b (by simp [h1, h2])
  have fh := f h (jne hL.1.2 k1 (by decide)) (jne hL.1.2 k9 (by decide))
  refine ⟨?_, ⟨x, q, hL, hD, hA, hS.gen (f _ (jne hL.2.1.2.2.1 k1 (by decide)) hD.2.2.2.2.2.1.2.1) (f _ (jne hL.2.2.2.2.2.2.2.2.2.2.1.2 k1 (by decide)) (jne hL.2.2.2.2.2.2.2.2.2.2.1.2 k9 (by decide))) (f _ (jne hL.2.2.2.2.2.2.2.2.2.2.2.2.1.2.1 k1 (by decide)) hD.2.2.2.2.2.1.2.2.1) (fun k hk => f _ (jne (hL.2.2.2.2.2.2.2.1.2.2 k hk).2.2 k1 (by decide)) (jne (hL.2.2.2.2.2.2.2.1.2.2 k hk).2.2 k9 (by decide))) (by rw [fh]) (by rw [fh]; exact hS.2.2.1) rfl (hS.tx (fun i hi => ?_) (fun i j hi hj => ?_))⟩, ?_⟩
  · congr 2
    by_cases g : hsX th X 0 12 = 0
    · rw [if_pos g, if_pos (by omega)]
    · rw [if_neg g, if_neg (by omega)]
      by_cases g2 : 0 < hsX th X 0 12
      · rw [if_pos g2, if_pos (by omega)]
      · rw [if_neg g2, if_neg (by omega)]
  · have kx := (hL.2.2.2.2.1 i (by omega)).1.2
    exact f _ (jne kx k1 (by decide)) (jne kx k9 (by decide))
  · refine f _ ?_ (hD.2.2.1 i j (by omega) hj).2.2.2.1
    rcases (hL.2.2.2.2.1 i (by omega)).kq j hj with z | z
    · exact jne z k1 (by decide)
    · exact jne z k1 (by decide)
  · intro b hb
    exact ⟨f b (fun z => hb (by rw [z]; exact hA.2.1 8 (by decide))) (fun z => hb (by rw [z]; exact hA.2.1 9 (by decide))), rfl⟩
theorem m_house (hR : RfL E P m a) (hS : RW I m a tp th X nb S l) (hW : WS tp th X nb l) (hd : 6 ≤ d) : jC E yX7_house cX7_house 4 (some .int) d [jp m] I P (rM I P m a True (if hsX th X 0 12 = 0 then -1 else if 0 < hsX th X 0 12 then 0 else 1) 1 (fun I' => RW I' m a tp th X nb S l) (fun I' => RW I' m a tp th X nb S l)) := by
  refine jC_mono (r_house hR (hS.rts hW) hd) ?_
  rintro r J P' ⟨rfl, hf, rfl⟩
  rw [hsX_th (fun t ht => (hS.2.1 t ht).1) 12 0 (by omega)]
  have h0 := hS.p0 hR 0
  refine ⟨rfl, fun b h1 h2 => ?_, Or.inl ⟨trivial, rfl, ?_, ?_⟩⟩
  · rw [hf.1 b h1 (h2 32 (by decide)) (h2 33 (by decide))]
    funext j
    exact jput_a _ h1
  · rw [hf.2 0 (by decide) (by decide), jput_s]
  · have er : ∀ j, j ∈ rfK → j ≠ 32 → j ≠ 33 → J (a j) = jput I m 0 0 (a j) := fun j hj h1 h2 => hf.row hR hj h1 h2
    have em : ∀ k, k ≠ 34 → k ≠ 35 → J m k = jput I m 0 0 m k := hf.2
    generalize jput I m 0 0 = K at h0 er em
    show RW J m a tp th X nb S l
    unfold RW at *
    rw [er 1 (by decide) (by decide) (by decide), er 5 (by decide) (by decide) (by decide), er 17 (by decide) (by decide) (by decide), er 19 (by decide) (by decide) (by decide), em 2 (by decide) (by decide), em 3 (by decide) (by decide), em 4 (by decide) (by decide), em 16 (by decide) (by decide), em 20 (by decide) (by decide), em 21 (by decide) (by decide)]
    exact ⟨h0.1, fun i hi => ⟨(h0.2.1 i hi).1, fun h5 => ((h0.2.1 i hi).2 h5).cg (fun j g1 g2 => er j (rfK_515 j (by omega) g2) (by omega) (by omega))⟩, h0.2.2.1, fun h4 k j g1 g2 => by rw [er 18 (by decide) (by decide) (by decide)]; exact h0.2.2.2.1 h4 k j g1 g2, h0.2.2.2.2⟩
end JMv2
