section JMv4
variable {E : jE} {I I' J : jI} {P P' : jP} {d h m : Nat} {c x t hb a : Nat → Nat} {q u : Nat → Nat → Nat} {C : Nat → Prop} {tp l l' : List Int} {th nb nb' : Nat → Int} {X : Nat → TX} {S : Nat → Nat → Int}
theorem CS.ot (hS : CS I h c x q hb tp th X nb S l) (hL : CL E P h c x q t u hb) (hD : CD c x q u hb) (fx : ∀ b, b ≠ h → b ≠ c 6 → b ≠ c 7 → b ≠ c 8 → b ≠ c 9 → b ≠ c 10 → b ≠ c 11 → J b = I b) (fh : ∀ k, k ≠ 13 → J h k = I h k) (ho : outM J (c 6) (c 7) (l'.map jB, 0) = J) (h13 : J h 13 = nb' 5) (hn : ∀ j, j < 5 → nb' j = nb j) : CS J h c x q hb tp th X nb' S l' := by
  obtain ⟨-, k8, -, -, k9, -⟩ := hL.2.2.2.2.2.2.2.2.1
  obtain ⟨-, k6, -, ⟨-, k7, -⟩, -, ⟨-, k10, -⟩, -, -, k11, -⟩ := hL.2.2.2.2.2.2.2.2.2
  have hc := hL.ch
  have k0 := hL.2.1.2.2.1
  have hor : c 7 ≠ c 6 := jne k7 k6.2 (by decide)
  have e0 : J (c 0) = I (c 0) := fx _ hc.1 (jne k0 k6.2 (by decide)) hD.2.2.2.2.2.1.1 (jne k0 k8.2 (by decide)) hD.2.2.2.2.2.1.2.1 (jne k0 k10 (by decide)) (jne k0 k11 (by decide))
  obtain ⟨n5, n6, n7, n8, n11, n13⟩ := hS.2.2.1
  refine ⟨by rw [e0, fh 1 (by decide)]; exact hS.1, hS.tx (fun i hi => ?_) (fun i j hi hj => ?_), ?_, fun h4 k j hk hj => ?_, ?_, ?_, fun k hk => ?_⟩
  · have k5 := (hL.2.2.2.2.1 i (by omega)).1.2
    exact fx _ (hL.xh (by omega)) (jne k5 k6.2 (by decide)) (jne k5 k7 (by decide)) (jne k5 k8.2 (by decide)) (jne k5 k9 (by decide)) (jne k5 k10 (by decide)) (jne k5 k11 (by decide))
  · have g := hD.2.2.1 i j (by omega) hj
    refine fx _ (hL.qh (by omega) hj) ?_ g.2.2.1 ?_ g.2.2.2.1 g.2.2.2.2.1 g.2.2.2.2.2.1
    · rcases (hL.2.2.2.2.1 i (by omega)).kq j hj with z | z
      · exact jne z k6.2 (by decide)
      · exact jne z k6.2 (by decide)
    · rcases (hL.2.2.2.2.1 i (by omega)).kq j hj with z | z
      · exact jne z k8.2 (by decide)
      · exact jne z k8.2 (by decide)
  · rw [fh 5 (by decide), fh 6 (by decide), fh 7 (by decide), fh 8 (by decide), fh 11 (by decide), hn 0 (by decide), hn 1 (by decide), hn 2 (by decide), hn 3 (by decide), hn 4 (by decide)]
    exact ⟨n5, n6, n7, n8, n11, h13⟩
  · have k0 := (hL.2.2.2.2.2.2.2.1.2.2 k hk).2.2
    rw [fx _ (hL.hh hk) (jne k0 k6.2 (by decide)) (jne k0 k7 (by decide)) (jne k0 k8.2 (by decide)) (jne k0 k9 (by decide)) (jne k0 k10 (by decide)) (jne k0 k11 (by decide))]
    exact hS.2.2.2.1 (by rw [← hn 4 (by decide)]; exact h4) k j hk hj
  · rw [← ho, outM_1]
    simp only [List.length_map]
  · rw [← ho, outM_2]
  · rw [← ho, ← getD_map (f := jB) hk]
    unfold outM
    rw [if_neg (fun z => hor z.1), if_neg (fun z => hor z.1), if_pos ⟨rfl, by simpa using hk⟩]
/-- of which TEXT OUT is -/
def nbO (nb : Nat → Int) (t0 : Int) (r : Option (List Int)) : Nat → Int := fun j => if j = 5 ∨ j = 6 then r.elim (-1) (fun _ => t0) else nb j
theorem WS.outs {t0 : Int} {r : Option (List Int)} (hW : WS tp th X nb l) (hr : ∀ l', r = some l' → l'.length ≤ 2000 ∧ byt l') : WS tp th X (nbO nb t0 r) (r.getD []) := by
  refine ⟨hW.1, hW.2.1, hW.2.2.1, ?_, Or.inl rfl⟩
  cases r with
  | none => exact ⟨by decide, fun b hb => absurd hb (List.not_mem_nil)⟩
  | some l' => exact hr l' rfl
theorem RW.ou {t0 : Int} {r : Option (List Int)} {v : Option jV} (hR : RfL E P m a) (hS : RW I m a tp th X nb S l) (hq : ouQ I m a t0 r v I') : v = some (ji (r.elim (-1) (fun l => (l.length : Int)))) ∧ RF m a I I' ∧ I' m 0 = 0 ∧ RW I' m a tp th X (nbO nb t0 r) S (r.getD []) := by
  obtain ⟨q1, q2, q3, q4, q5, q6, q7, q8⟩ := hq
  have er : ∀ j, j ∈ rfK → j ≠ 19 → j ≠ 32 → j ≠ 33 → I' (a j) = I (a j) := fun j hj h1 h2 h3 => q3 _ (hR.nm hj) (hR.d hj (by decide) h1) (hR.d hj (by decide) h2) (hR.d hj (by decide) h3)
  refine ⟨q1, fun b h1 h2 => q3 b h1 (h2 19 (by decide)) (h2 32 (by decide)) (h2 33 (by decide)), q5, ?_⟩
  unfold RW at *
  rw [er 1 (by decide) (by decide) (by decide) (by decide), er 5 (by decide) (by decide) (by decide) (by decide), er 17 (by decide) (by decide) (by decide) (by decide), q4 2 (by decide) (by decide) (by decide) (by decide) (by decide), q4 3 (by decide) (by decide) (by decide) (by decide) (by decide), q4 4 (by decide) (by decide) (by decide) (by decide) (by decide), q4 16 (by decide) (by decide) (by decide) (by decide) (by decide), q7]
  obtain ⟨b1, b2, ⟨b3, b4, b5, b6, b7, b8⟩, b9, b10⟩ := hS
  exact ⟨b1, fun i hi => ⟨(b2 i hi).1, fun h5 => ((b2 i hi).2 h5).cg (fun j g1 g2 => er j (rfK_515 j (by omega) g2) (by omega) (by omega) (by omega))⟩, ⟨b3, b4, b5, b6, b7, rfl⟩, fun h4 k j g1 g2 => by rw [er 18 (by decide) (by decide) (by decide) (by decide)]; exact b9 h4 k j g1 g2, q6, q8⟩
/-! lay -/
def layR (nb : Nat → Int) (S : Nat → Nat → Int) (x : TX) : Option (List Int) := if nb 4 = 0 then none else sayQ (some []) (lyR (xTol S x) (xDp x) (xNm x) (xT x).length (xT x).length 0)
theorem layR_ok {x : TX} (hW : WX x) (h : layR nb S x = some l') : l'.length ≤ 2000 ∧ byt l' := by
  unfold layR at h
  split at h
  · cases h
  · have e := sayQ_asc h
    refine ⟨?_, by rw [e]; exact fun b hb => by have := lyR_asc hW rfl _ 0 (by omega) b hb; omega⟩
    simp only [sayQ, Option.bind_some] at h
    split at h
    · rename_i z
      rw [e]
      simpa using z
    · cases h
theorem k_lay {t0 : Int} (hl : (eX E).stackTraces = false) (hK : KS E C h c t u hb I P tp th X nb S l) (hW : WS tp th X nb l) (hd : 7 ≤ d) : jCx E yX6_lay cX6_lay 4 (some .int) d 1 [jp h, ji t0] I P (fun r I' P' => thr th t0 ∧ r = some (ji ((layR nb S (X t0.toNat)).elim (-1) (fun l => (l.length : Int)))) ∧ KS E C h c t u hb I' P' tp th X (nbO nb t0 (layR nb S (X t0.toNat))) S ((layR nb S (X t0.toNat)).getD []) ∧ FR C I P I' P') (jXx (¬ thr th t0) jNSE I P) := by
  obtain ⟨x, q, hL, hD, hA, hS⟩ := hK
  have hc := hS.cts hW
  have n11 := hS.2.2.1.2.2.2.2.1
  obtain ⟨p12, k6, hor, hra, -⟩ := hL.2.2.2.2.2.2.2.2.2
  have hch := hL.ch
  have h67 : c 6 ≠ c 7 := jne k6.2 hra.2.1 (by decide)
  refine jCx_mono (c_lay hl hL.1 hL.2.2.2.2.2.2.2.1 hL.ts p12 k6 hor hra (fun i hi => (hD.2.2.1 i 0 (by omega) (by omega)).2.2.1) (fun i hi h8 => ⟨(hc i hi h8).1.txg (hc i hi h8).2, (hc i hi h8).1.txi (hc i hi h8).2, (hc i hi h8).1.dep (hc i hi h8).2⟩) hd) ?_ ?_
  · rintro r J P' ⟨z1, rfl, rfl, rfl⟩
    have hx := hc t0.toNat (by have := z1.1; have := z1.2.1; omega) z1.2.2
    -- a memory with OUT laid
    have key : ∀ (K : jI) (l' : List Int) (v : Int) (nb' : Nat → Int), (∀ b, b ≠ h → b ≠ c 6 → b ≠ c 7 → K b = I b) → (∀ k, k ≠ 13 → K h k = I h k) → v = nb' 5 → (∀ j, j < 5 → nb' j = nb j) → KS E C h c t u hb (jput (outM K (c 6) (c 7) (l'.map jB, 0)) h 13 v) P' tp th X nb' S l' ∧ FR C I P' (jput (outM K (c 6) (c 7) (l'.map jB, 0)) h 13 v) P' := by
      intro K l' v nb' f1 f2 hv hn
      have fb : ∀ b, b ≠ h → b ≠ c 6 → b ≠ c 7 → jput (outM K (c 6) (c 7) (l'.map jB, 0)) h 13 v b = I b := fun b g1 g2 g3 => by
        rw [← f1 b g1 g2 g3]
        funext j
        rw [jput_a _ g1, outM_x _ _ g2 g3]
      refine ⟨⟨x, q, hL, hD, hA, hS.ot hL hD (fun b g1 g2 g3 _ _ _ _ => fb b g1 g2 g3) (fun k hk => ?_) ?_ ?_ hn⟩, fun b hb => ⟨fb b (fun z => hb (by rw [z]; exact hA.1)) (fun z => hb (by rw [z]; exact hA.2.1 6 (by decide))) (fun z => hb (by rw [z]; exact hA.2.1 7 (by decide))), rfl⟩⟩
      · rw [jput_k _ hk, outM_x _ _ (Ne.symm hch.2.1) (Ne.symm hch.2.2)]
        exact f2 k hk
      · rw [outM_putH (Ne.symm hch.2.1) (Ne.symm hch.2.2)]
        exact outM_outM _ _ _ h67 (Nat.le_refl _)
      · rw [jput_s]
        exact hv
    rw [n11]
    unfold layR
    by_cases y : nb 4 = 0
    · rw [if_pos y, if_pos y, if_pos y]
      have k := key I [] (-1) (nbO nb t0 none) (fun _ _ _ _ => rfl) (fun _ _ => rfl) rfl (fun j hj => if_neg (by omega))
      exact ⟨hS.ex.mp z1, rfl, k.1, k.2⟩
    · rw [if_neg y, if_neg y, if_neg y]
      have hoe := ct_lay (S := S) hx.1 hx.2 (fun k j h1 h2 => hS.2.2.2.1 y k j h1 (by omega))
      generalize layW (tolV I (x t0.toNat) (q t0.toNat) hb) (I (q t0.toNat 4)) (tNm I (q t0.toNat)) (I (x t0.toNat) 11).toNat 0 ([], 0) = w at hoe
      generalize sayQ (some []) (lyR (xTol S (X t0.toNat)) (xDp (X t0.toNat)) (xNm (X t0.toNat)) (xT (X t0.toNat)).length (xT (X t0.toNat)).length 0) = r at hoe
      have f1 : ∀ b, b ≠ h → jput I h 13 (-1) b = I b := fun b g => by funext j; exact jput_a _ g
      have f2 : ∀ k, k ≠ 13 → jput I h 13 (-1) h k = I h k := fun k hk => jput_k _ hk
      unfold ouV ouM
      rcases hoe with ⟨l', rfl, rfl, hlen⟩ | ⟨rfl, h1, h2⟩
      · have ng : ¬ ((0 : Int) ≠ 0 ∨ (2000 : Int) < ((l'.map jB).length : Int)) := by
          rw [List.length_map]
          omega
        rw [if_neg ng, if_neg ng]
        have k := key (jput I h 13 (-1)) l' t0 (nbO nb t0 (some l')) (fun b g1 _ _ => f1 b g1) f2 rfl (fun j hj => if_neg (by omega))
        refine ⟨hS.ex.mp z1, ?_, k.1, k.2⟩
        rw [List.length_map]
        rfl
      · rw [if_pos (Or.inl (by omega)), if_pos (Or.inl (by omega))]
        have k := key (outM (jput I h 13 (-1)) (c 6) (c 7) w) [] (-1) (nbO nb t0 none) (fun b g1 g2 g3 => by rw [← f1 b g1]; funext j; exact outM_x _ _ g2 g3) (fun k hk => by rw [outM_x _ _ (Ne.symm hch.2.1) (Ne.symm hch.2.2)]; exact f2 k hk) rfl (fun j hj => if_neg (by omega))
        exact ⟨hS.ex.mp z1, rfl, k.1, k.2⟩
  · rintro v J P' ⟨z, rfl, rfl, rfl⟩
    exact ⟨fun y => z (hS.ex.mpr y), rfl, rfl, rfl⟩
theorem m_lay {t0 : Int} (hR : RfL E P m a) (hS : RW I m a tp th X nb S l) (hW : WS tp th X nb l) (hd : 4 ≤ d) : jC E yX7_lay cX7_lay 6 (some .int) d [jp m, ji t0] I P (rM I P m a (thr th t0) ((layR nb S (X t0.toNat)).elim (-1) (fun l => (l.length : Int))) 1 (fun I' => RW I' m a tp th X (nbO nb t0 (layR nb S (X t0.toNat))) S ((layR nb S (X t0.toNat)).getD [])) (fun I' => RW I' m a tp th X nb S l)) := by
  have n16 := hS.2.2.1.2.2.2.2.1
  refine jC_mono (r_lay (S := S) hR (hS.rts hW) (fun z => hS.2.2.2.1 (by rw [← n16]; exact z)) hd) ?_
  rintro v J P' ⟨rfl, z⟩
  rw [n16] at z
  rcases z with ⟨z1, z2⟩ | ⟨z1, rfl, rfl⟩
  · obtain ⟨g1, g2, g3, g4⟩ := hS.ou hR z2
    exact ⟨rfl, g2, Or.inl ⟨hS.ex.mp z1, g1, g3, g4⟩⟩
  · exact ⟨rfl, fun b h1 _ => by funext j; exact jput_a _ h1, Or.inr ⟨fun y => z1 (hS.ex.mpr y), ⟨_, rfl⟩, jput_s _ _ _ _, hS.p0 hR _⟩⟩
/-! turn -/
theorem k_turn {t0 mk : Int} (hl : (eX E).stackTraces = false) (hK : KS E C h c t u hb I P tp th X nb S l) (hW : WS tp th X nb l) (hd : 7 ≤ d) : jCx E yX6_turn cX6_turn 6 (some .int) d 2 [jp h, ji t0, ji mk] I P (fun r I' P' => (thr th t0 ∧ (mk = 0 ∨ mk = 1)) ∧ r = some (ji ((tuX (X t0.toNat) mk).elim (-1) (fun l => (l.length : Int)))) ∧ KS E C h c t u hb I' P' tp th X (nbO nb t0 (tuX (X t0.toNat) mk)) S ((tuX (X t0.toNat) mk).getD []) ∧ FR C I P I' P') (fun Ec I' P' => ((¬ thr th t0 ∧ Ec = jNSE) ∨ (thr th t0 ∧ ¬ (mk = 0 ∨ mk = 1) ∧ Ec = jIAE)) ∧ I' = I ∧ P' = P) := by
  obtain ⟨x, q, hL, hD, hA, hS⟩ := hK
  have hc := hS.cts hW
  have hMk := hL.2.2.2.2.2.2.2.2.1
  have hMd := hL.2.2.2.2.2.2.2.2.2
  refine jCx_mono (c_turn hl hL.1 hL.ts hMk hMd (fun i hi => ⟨hD.2.2.2.2.2.1.2.2.1, hD.2.2.2.2.2.1.2.2.2.1, fun j hj => by have g := hD.2.2.1 i j (by omega) hj; exact ⟨g.2.2.1, g.2.2.2.1, g.2.2.2.2.1, g.2.2.2.2.2.1⟩⟩) (fun i hi h8 => ⟨(hc i hi h8).1.txi (hc i hi h8).2, by rw [(hc i hi h8).1.1.1]; have := (hc i hi h8).2.1; omega, (hc i hi h8).1.ord (hc i hi h8).2⟩) hd) ?_ ?_
  · rintro r J P' ⟨⟨z1, z2⟩, rfl, hq⟩
    have hx := hc t0.toNat (by have := z1.1; have := z1.2.1; omega) z1.2.2
    rw [ct_tur hx.1 hx.2] at hq
    obtain ⟨q1, q2, q3, q4, q5⟩ := hq
    generalize tuX (X t0.toNat) mk = res at q1 q4 q5
    have fb : ∀ b, b ≠ h → b ≠ c 6 → b ≠ c 7 → b ≠ c 8 → b ≠ c 9 → b ≠ c 10 → b ≠ c 11 → J b = I b := fun b g0 g1 g2 g3 g4 g5 g6 => q2 b (by simp [tnS, g0, g1, g2, g3, g4, g5, g6])
    have eg : (Option.map (List.map jB) res).getD [] = (res.getD []).map jB := by cases res <;> rfl
    rw [eg] at q5
    refine ⟨⟨hS.ex.mp z1, z2⟩, ?_, ⟨x, q, hL, hD, hA, hS.ot hL hD fb q3 q5 ?_ (fun j hj => if_neg (by omega))⟩, fun b hb => ⟨fb b (fun z => hb (by rw [z]; exact hA.1)) (fun z => hb (by rw [z]; exact hA.2.1 6 (by decide))) (fun z => hb (by rw [z]; exact hA.2.1 7 (by decide))) (fun z => hb (by rw [z]; exact hA.2.1 8 (by decide))) (fun z => hb (by rw [z]; exact hA.2.1 9 (by decide))) (fun z => hb (by rw [z]; exact hA.2.1 10 (by decide))) (fun z => hb (by rw [z]; exact hA.2.1 11 (by decide))), rfl⟩⟩
    · rw [q1]
      cases res with
      | none => rfl
      | some l' => simp
    · rw [q4]
      cases res <;> rfl
  · rintro v J P' ⟨z, rfl, rfl⟩
    refine ⟨?_, rfl, rfl⟩
    rw [hS.ex] at z
    exact z
theorem m_turn {t0 mk : Int} (hR : RfL E P m a) (hS : RW I m a tp th X nb S l) (hW : WS tp th X nb l) (hd : 7 ≤ d) : jC E yX7_turn cX7_turn 8 (some .int) d [jp m, ji t0, ji mk] I P (rM I P m a (thr th t0 ∧ (mk = 0 ∨ mk = 1)) ((tuX (X t0.toNat) mk).elim (-1) (fun l => (l.length : Int))) (if 0 ≤ t0 ∧ t0 < 12 ∧ th t0.toNat ≠ 0 then 2 else 1) (fun I' => RW I' m a tp th X (nbO nb t0 (tuX (X t0.toNat) mk)) S ((tuX (X t0.toNat) mk).getD [])) (fun I' => RW I' m a tp th X nb S l)) := by
  refine jC_mono (r_turn hR (hS.rts hW) hd) ?_
  rintro v J P' ⟨rfl, z⟩
  rcases z with ⟨z1, z2, z3⟩ | ⟨z1, rfl, rfl⟩ | ⟨z1, z2, rfl, rfl⟩
  · obtain ⟨g1, g2, g3, g4⟩ := hS.ou hR z3
    exact ⟨rfl, g2, Or.inl ⟨⟨hS.ex.mp z1, z2⟩, g1, g3, g4⟩⟩
  · exact ⟨rfl, fun b h1 _ => by funext j; exact jput_a _ h1, Or.inr ⟨fun y => z1 (hS.ex.mpr y.1), ⟨_, rfl⟩, by rw [jput_s, if_neg (show ¬ (0 ≤ t0 ∧ t0 < 12 ∧ th t0.toNat ≠ 0) from fun y => z1 (hS.ex.mpr y))], hS.p0 hR _⟩⟩
  · exact ⟨rfl, fun b h1 _ => by funext j; exact jput_a _ h1, Or.inr ⟨fun y => z2 y.2, ⟨_, rfl⟩, by rw [jput_s, if_pos (show 0 ≤ t0 ∧ t0 < 12 ∧ th t0.toNat ≠ 0 from hS.ex.mp z1)], hS.p0 hR _⟩⟩
end JMv4
