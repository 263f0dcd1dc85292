section JMv3
variable {E : jE} {I I' : jI} {P P' : jP} {d h m : Nat} {c x t hb a : Nat → Nat} {q u : Nat → Nat → Nat} {C : Nat → Prop} {tp l : List Int} {th nb : Nat → Int} {X : Nat → TX} {S : Nat → Nat → Int}
/-! find -/
theorem sT_th {th th' : Nat → Int} {f : Int → Int → Int → Int} {kd : Int} (h : ∀ t, t < 12 → th t = th' t) : ∀ (k t : Nat), t + k = 12 → sT f th X kd t k = sT f th' X kd t k
  | 0, t, _ => rfl
  | k + 1, t, ht => by rw [sT, sT, h t (by omega), sT_th h k (t + 1) (by omega)]
/-- THE STYLE that is found -/
def fS (th : Nat → Int) (X : Nat → TX) (tp xp : Int) (k j : Nat) : Int := brF (fun f => sT f th X (k : Int) 0 12) tp xp (fun _ => 1000000000) j
theorem CL.taS (hL : CL E P h c x q t u hb) {b : Nat} (hk : eK E b ≠ 9) : ¬ taS u b := by
  rintro ⟨k, i, hk2, hi, rfl⟩
  have g := (hL.2.2.2.2.2.2.1.2.2 k hk2).2
  have : i = 0 ∨ i = 1 := by omega
  rcases this with rfl | rfl
  · exact hk g.2.2.2.1.2.1
  · exact hk g.2.2.2.2.1.2.1
theorem k_find (hK : KS E C h c t u hb I P tp th X nb S l) (hW : WS tp th X nb l) (hd : 8 ≤ d) : jC E yX6_find cX6_find 3 (some .int) d [jp h] I P (fun r I' P' => r = some (ji (sS (fS th X (nb 2) (nb 3)) 16)) ∧ KS E C h c t u hb I' P' tp th X (su nb 4 1) (fS th X (nb 2) (nb 3)) l ∧ FR C I P I' P') := by
  obtain ⟨x, q, hL, hD, hA, hS⟩ := hK
  obtain ⟨n5, n6, n7, n8, n11, n13⟩ := hS.2.2.1
  have hc := hS.cts hW
  have hp := hW.2.2.1
  have hG : ∀ i, i < 12 → I (x i) 8 ≠ 0 → TxG I (x i) (q i) := fun i hi h8 => (hc i hi h8).1.txg (hc i hi h8).2
  have kx : ∀ i, i ≤ 12 → eK E (x i) = 5 := fun i hi => (hL.2.2.2.2.1 i hi).1.2
  have kt : ∀ k, k < 16 → eK E (t k) = 4 := fun k hk => (hL.2.2.2.2.2.2.1.2.2 k hk).2.1.2
  have kb : ∀ k, k < 16 → eK E (hb k) = 0 := fun k hk => (hL.2.2.2.2.2.2.2.1.2.2 k hk).2.2
  have hCG : CG I x q th X := fun i hi => ⟨by rw [(hS.2.1 i hi).1], fun z => by
    have g := (hS.2.1 i hi).2 z
    exact ⟨g.gaps, fun j hj => ⟨(g.2.2.2 j (by omega)).1, g.tst (by omega), (g.2.2.2 j (by omega)).2⟩⟩⟩
  have hfe := find_eq (S := fS th X (nb 2) (nb 3)) (t := t) (hb := hb) hD.2.2.2.1 hCG (fun i hi z => (hW.2.1 i hi).2 z |>.2.2.2.1) hD.2.2.2.2.1 (fun i j hi hj => jne (kb i hi) (kt j hj) (by decide)) hp.1 hp.2 (fun k hk => ⟨fun _ => 1000000000, rfl, fun j hj => rfl⟩)
  refine jC_mono (c_find hL.1 hL.2.2.2.2.2.2.1 hD.2.2.2.1 hL.2.2.2.2.2.2.2.1 hL.ts (fun i hi j hj => (hD.2.2.1 i j (by omega) hj).2.2.2.2.2.2) (fun i hi => hL.taS (by rw [kx i (by omega)]; decide)) hG (by rw [n7]; exact hp.1) (by rw [n8]; exact hp.2) hd) ?_
  rintro r J P' ⟨rfl, rfl, rfl⟩
  rw [n7, n8, hfe.2]
  have hfr := (taM_ok hD.2.2.2.1 hG).2
  have fx : ∀ b, eK E b ≠ 4 → eK E b ≠ 0 → ¬ taS u b → fnM (taM I x q u) (nb 2) (nb 3) t hb u 16 b = I b := fun b g1 g2 g3 => by
    rw [fnM_x 16 (fun j hj => ⟨fun z => g1 (by rw [z]; exact kt j hj), fun z => g2 (by rw [z]; exact kb j hj)⟩), hfr b g3]
  have fr := hfe.1
  have hFR : ∀ b, ¬ C b → fnM (taM I x q u) (nb 2) (nb 3) t hb u 16 b = I b := fun b hb => by
    rw [fnM_x 16 (fun j hj => ⟨fun z => hb (by rw [z]; exact (hA.2.2.2.2.1 j hj).1), fun z => hb (by rw [z]; exact (hA.2.2.2.2.1 j hj).2)⟩)]
    refine hfr b ?_
    rintro ⟨k, i, hk, hi, rfl⟩
    exact hb (hA.2.2.2.2.2 k i hk hi)
  generalize fnM (taM I x q u) (nb 2) (nb 3) t hb u 16 = K at fx fr hFR
  have fj : ∀ b, b ≠ h → eK E b ≠ 4 → eK E b ≠ 0 → ¬ taS u b → jput K h 11 1 b = I b := fun b g0 g1 g2 g3 => by
    rw [← fx b g1 g2 g3]; funext j; exact jput_a _ g0
  have fh : ∀ k, k ≠ 11 → jput K h 11 1 h k = I h k := fun k hk => by
    rw [jput_k _ hk, fx h (by rw [hL.1.2]; decide) (by rw [hL.1.2]; decide) (hL.taS (by rw [hL.1.2]; decide))]
  have k0 : eK E (c 0) = 8 := hL.2.1.2.2.1
  have k6 : eK E (c 6) = 2 := hL.2.2.2.2.2.2.2.2.2.2.1.2
  have k7 : eK E (c 7) = 8 := hL.2.2.2.2.2.2.2.2.2.2.2.2.1.2.1
  have e0 := fj (c 0) hL.ch.1 (by rw [k0]; decide) (by rw [k0]; decide) (hL.taS (by rw [k0]; decide))
  have e6 := fj (c 6) hL.ch.2.1 (by rw [k6]; decide) (by rw [k6]; decide) (hL.taS (by rw [k6]; decide))
  have e7 := fj (c 7) hL.ch.2.2 (by rw [k7]; decide) (by rw [k7]; decide) (hL.taS (by rw [k7]; decide))
  refine ⟨rfl, ⟨x, q, hL, hD, hA, ⟨by rw [fh 1 (by decide)]; exact hS.1.1, by rw [e0]; exact hS.1.2⟩, hS.tx (fun i hi => ?_) (fun i j hi hj => ?_), ?_, fun _ k j hk hj => ?_, by rw [e6, e7]; exact hS.2.2.2.2⟩, fun b hb => ⟨?_, rfl⟩⟩
  · have k5 := kx i (by omega)
    exact fj _ (hL.xh (by omega)) (by rw [k5]; decide) (by rw [k5]; decide) (hL.taS (by rw [k5]; decide))
  · refine fj _ (hL.qh (by omega) hj) ?_ ?_ (hD.2.2.1 i j (by omega) hj).2.2.2.2.2.2
    · rcases (hL.2.2.2.2.1 i (by omega)).kq j hj with z | z <;> rw [z] <;> decide
    · rcases (hL.2.2.2.2.1 i (by omega)).kq j hj with z | z <;> rw [z] <;> decide
  · rw [fh 5 (by decide), fh 6 (by decide), fh 7 (by decide), fh 8 (by decide), fh 13 (by decide), jput_s]
    exact ⟨n5, n6, n7, n8, rfl, n13⟩
  · rw [jput_a _ (hL.hh hk)]
    exact fr k j hk hj
  · rw [← hFR b hb]
    funext j
    exact jput_a _ (fun z => hb (by rw [z]; exact hA.1))
theorem WS.find (hW : WS tp th X nb l) : WS tp th X (su nb 4 1) l := hW.num hW.2.2.1.1 hW.2.2.1.2 rfl rfl
theorem m_find (hR : RfL E P m a) (hS : RW I m a tp th X nb S l) (hW : WS tp th X nb l) (hd : 4 ≤ d) : jC E yX7_find cX7_find 8 (some .int) d [jp m] I P (rM I P m a True (sS (fS th X (nb 2) (nb 3)) 16) 1 (fun I' => RW I' m a tp th X (su nb 4 1) (fS th X (nb 2) (nb 3)) l) (fun I' => RW I' m a tp th X nb S l)) := by
  obtain ⟨n3, n4, n0, n1, n16, n21⟩ := hS.2.2.1
  have hp := hW.2.2.1
  refine jC_mono (r_find hR (hS.rts hW) ⟨n0, hp.1⟩ ⟨n1, hp.2⟩ hd) ?_
  rintro r J P' ⟨rfl, S', rfl, hrow, hbr, hf, hm, z0, z16⟩
  have hl : ∀ i, i < 12 → th i ≠ 0 → (xT (X i)).length ≤ 200 := fun i hi z => ((hW.2.1 i hi).2 z).2.2.2.1
  have e : ∀ k j, k < 16 → j < 8 → S' k j = fS th X (nb 2) (nb 3) k j := by
    intro k j hk hj
    obtain ⟨h', h6, hs⟩ := hbr k hk
    have hF : ∀ n x b y c l, 0 ≤ (fun f => sT f th X (k : Int) 0 12) (fex n x b y c l) ∧ (fun f => sT f th X (k : Int) 0 12) (fex n x b y c l) ≤ 2388 := fun n x b y c l => by
      have := sT_01 (th := th) (X := X) (kd := (k : Int)) (fex_01 n x b y c l) hl 12 0 (by omega)
      exact ⟨this.1, by have := this.2; show sT (fex n x b y c l) th X (k : Int) 0 12 ≤ 2388; omega⟩
    have ek : sK I a X k = fun f => sT f th X (k : Int) 0 12 := by
      funext f
      exact sT_th (fun i hi => (hS.2.1 i hi).1) 12 0 (by omega)
    rw [hs j hj, ek]
    exact OPT_u (brF_opt hF hp.1 hp.2 h6) (brF_opt hF hp.1 hp.2 rfl) j hj
  rw [sS_cg 16 (fun k hk => e k 6 hk (by decide))]
  have er : ∀ j, j ∈ rfK → (j < 18 ∨ j = 19) → J (a j) = I (a j) := fun j hj h18 => hf _ (hR.nm hj) (hR.d hj (by decide) (by omega)) (hR.d hj (by decide) (by omega)) (hR.d hj (by decide) (by omega)) (hR.d hj (by decide) (by omega))
  refine ⟨rfl, fun b h1 h2 => hf b h1 (h2 18 (by decide)) (h2 28 (by decide)) (h2 29 (by decide)) (h2 30 (by decide)), Or.inl ⟨trivial, rfl, z0, ?_⟩⟩
  show RW J m a tp th X (su nb 4 1) (fS th X (nb 2) (nb 3)) l
  unfold RW at *
  rw [er 1 (by decide) (by decide), er 5 (by decide) (by decide), er 17 (by decide) (by decide), er 19 (by decide) (by decide), hm 2 (by decide) (by decide) (by decide), hm 3 (by decide) (by decide) (by decide), hm 4 (by decide) (by decide) (by decide), hm 20 (by decide) (by decide) (by decide), hm 21 (by decide) (by decide) (by decide), z16]
  exact ⟨hS.1, fun i hi => ⟨(hS.2.1 i hi).1, fun h5 => ((hS.2.1 i hi).2 h5).cg (fun j g1 g2 => er j (rfK_515 j (by omega) g2) (by omega))⟩, ⟨n3, n4, n0, n1, rfl, n21⟩, fun _ k j g1 g2 => by rw [hrow k j g1 g2]; exact e k j g1 g2, hS.2.2.2.2⟩
/-! feed -/
theorem jB_and (y : Int) : jB (jAnd y 255) = jB y := by
  have h := jB_bR (bR_and y)
  rw [jB_jB] at h
  exact h.symm
theorem fed_u20 (v w x y z : Int) : fedB v w x y z = (u20 v w x y z).map jB := by
  simp [fedB, u20, fourB, u4, jB_and]
theorem u20_byt (v w x y z : Int) : byt (u20 v w x y z) := by
  have g : ∀ s : Int, byt (u4 s) := fun s b hb => by
    have e : ∀ k : Int, 0 ≤ jAnd k 255 ∧ jAnd k 255 ≤ 255 := fun k => by rw [jAnd_255]; omega
    simp only [u4, List.mem_cons, List.not_mem_nil, or_false] at hb
    rcases hb with rfl | rfl | rfl | rfl <;> exact e _
  exact ((((g v).app (g w)).app (g x)).app (g y)).app (g z)
def tpF (tp : List Int) (v w x y z : Int) : List Int := if 800 < (tp.length : Int) + 20 then tp else tp ++ u20 v w x y z
theorem WS.feed {v w x y z : Int} (hW : WS tp th X nb l) : WS (tpF tp v w x y z) th X nb l := by
  refine ⟨?_, hW.2⟩
  unfold tpF
  split
  · exact hW.1
  · refine ⟨?_, hW.1.2.app (u20_byt v w x y z)⟩
    rw [List.length_append, show (u20 v w x y z).length = 20 from rfl]
    omega
theorem k_feed {v w y z s : Int} (hK : KS E C h c t u hb I P tp th X nb S l) (hW : WS tp th X nb l) (hd : 1 ≤ d) : jC E yX6_feed cX6_feed 6 (some .int) d [jp h, ji v, ji w, ji y, ji z, ji s] I P (fun r I' P' => r = some (ji (if 800 < (tp.length : Int) + 20 then -1 else (tp.length : Int) + 20)) ∧ KS E C h c t u hb I' P' (tpF tp v w y z s) th X nb S l ∧ FR C I P I' P') := by
  obtain ⟨x, q, hL, hD, hA, hS⟩ := hK
  have hw0 : (rowF (I (c 0)) 0 tp.length).length = tp.length := rowF_len _ _
  have hI0 : outM I h (c 0) (rowF (I (c 0)) 0 tp.length, I h 2) = I := outM_eq (by rw [hw0]; exact hS.1.1) rfl (fun k hk => by
    have hk' : k < tp.length := by rw [← hw0]; exact hk
    show I (c 0) k = (rowF (I (c 0)) 0 tp.length).getD k 0
    rw [rowF_at _ _ _ hk', Nat.zero_add])
  have hk := c_feed (I := I) (P := P) (a := v) (b := w) (c := y) (e := z) (f := s) (w := (rowF (I (c 0)) 0 tp.length, I h 2)) hL.1 hL.2.1.1 hL.2.1.2 (by rw [hw0]; exact hW.1.1) hd
  rw [hI0] at hk
  simp only [hw0] at hk
  refine jC_mono hk ?_
  rintro r J P' ⟨rfl, rfl, rfl⟩
  have hc0 := hL.ch
  refine ⟨rfl, ⟨x, q, hL, hD, hA, ?_⟩, ?_⟩
  · unfold tpF
    by_cases g : 800 < (tp.length : Int) + 20
    · rw [if_pos g, if_pos g, hI0]
      exact hS
    · rw [if_neg g, if_neg g]
      show CS (outM I h (c 0) (rowF (I (c 0)) 0 tp.length ++ fedB v w y z s, I h 2)) h c x q hb (tp ++ u20 v w y z s) th X nb S l
      rw [fed_u20]
      have hb20 := u20_byt v w y z s
      have l20 : (u20 v w y z s).length = 20 := rfl
      generalize u20 v w y z s = f at hb20 l20
      have fx : ∀ b, b ≠ h → b ≠ c 0 → outM I h (c 0) (rowF (I (c 0)) 0 tp.length ++ f.map jB, I h 2) b = I b := fun b g1 g2 => by funext j; exact outM_x _ _ g1 g2
      have fh : ∀ k, k ≠ 1 → outM I h (c 0) (rowF (I (c 0)) 0 tp.length ++ f.map jB, I h 2) h k = I h k := fun k h1 => by
        unfold outM
        rw [if_neg (fun z => h1 z.2)]
        by_cases h2 : k = 2
        · rw [if_pos ⟨rfl, h2⟩, h2]
        · rw [if_neg (fun z => h2 z.2), if_neg (fun z => hc0.1 z.1.symm)]
      have f0 : ∀ k, outM I h (c 0) (rowF (I (c 0)) 0 tp.length ++ f.map jB, I h 2) (c 0) k = if k < tp.length + 20 then (if k < tp.length then I (c 0) k else jB (f.getD (k - tp.length) 0)) else I (c 0) k := fun k => by
        unfold outM
        rw [if_neg (fun z => hc0.1 z.1), if_neg (fun z => hc0.1 z.1)]
        simp only [List.length_append, List.length_map, hw0, l20, true_and]
        by_cases g1 : k < tp.length + 20
        · rw [if_pos g1, if_pos g1]
          by_cases g2 : k < tp.length
          · rw [if_pos g2, List.getD_eq_getElem?_getD, List.getElem?_append_left (by rw [hw0]; exact g2), ← List.getD_eq_getElem?_getD, rowF_at _ _ _ g2, Nat.zero_add]
          · rw [if_neg g2, List.getD_eq_getElem?_getD, List.getElem?_append_right (by rw [hw0]; omega), ← List.getD_eq_getElem?_getD, hw0, getD_map (by omega)]
        · rw [if_neg g1, if_neg g1]
      have e6 := fx (c 6) hc0.2.1 (jne hL.2.2.2.2.2.2.2.2.2.2.1.2 hL.2.1.2.2.1 (by decide))
      have e7 := fx (c 7) hc0.2.2 (Ne.symm hD.2.2.2.2.2.1.1)
      refine ⟨⟨?_, fun k hk => ?_, fun i hi => ?_⟩, hS.tx (fun i hi => fx _ (hL.xh (by omega)) (jne (hL.2.2.2.2.1 i (by omega)).1.2 hL.2.1.2.2.1 (by decide))) (fun i j hi hj => fx _ (hL.qh (by omega) hj) (hD.2.2.1 i j (by omega) hj).1), ?_, fun h4 k j hk hj => ?_, by rw [e6, e7]; exact hS.2.2.2.2⟩
      · rw [outM_1]
        simp only [List.length_append, List.length_map, hw0]
      · rw [f0 k]
        rw [List.length_append, l20] at hk
        rw [if_pos hk]
        by_cases g2 : k < tp.length
        · rw [if_pos g2, List.getD_eq_getElem?_getD, List.getElem?_append_left g2, ← List.getD_eq_getElem?_getD]
          exact hS.1.2.1 k g2
        · have ea : (tp ++ f).getD k 0 = f.getD (k - tp.length) 0 := by
            rw [List.getD_eq_getElem?_getD, List.getElem?_append_right (by omega), ← List.getD_eq_getElem?_getD]
          rw [if_neg g2, ea]
          refine bR_jB (hb20 _ ?_)
          rw [List.getD_eq_getElem?_getD, List.getElem?_eq_getElem (by omega)]
          exact List.getElem_mem _
      · rw [f0 i]
        split
        · split
          · exact hS.1.2.2 i hi
          · exact jB_rng _
        · exact hS.1.2.2 i hi
      · rw [fh 5 (by decide), fh 6 (by decide), fh 7 (by decide), fh 8 (by decide), fh 11 (by decide), fh 13 (by decide)]
        exact hS.2.2.1
      · rw [fx _ (hL.hh hk) (jne (hL.2.2.2.2.2.2.2.1.2.2 k hk).2.2 hL.2.1.2.2.1 (by decide))]
        exact hS.2.2.2.1 h4 k j hk hj
  · intro b hb
    refine ⟨?_, rfl⟩
    funext j
    exact outM_x _ _ (fun z => hb (by rw [z]; exact hA.1)) (fun z => hb (by rw [z]; exact hA.2.1 0 (by decide)))
theorem m_feed {v w y z s : Int} (hR : RfL E P m a) (hS : RW I m a tp th X nb S l) (hW : WS tp th X nb l) (hd : 1 ≤ d) : jC E yX7_feed cX7_feed 6 (some .int) d [jp m, ji v, ji w, ji y, ji z, ji s] I P (rM I P m a True (if 800 < (tp.length : Int) + 20 then -1 else (tp.length : Int) + 20) 1 (fun I' => RW I' m a (tpF tp v w y z s) th X nb S l) (fun I' => RW I' m a tp th X nb S l)) := by
  have hn := hR.n1
  have hI0 : tpR I m a tp = I := by
    funext b k
    unfold tpR
    split
    · rename_i z; rw [z.1, z.2]; exact hS.1.1.symm
    · split
      · rename_i z; rw [z.1]; exact (hS.1.2 k z.2).symm
      · rfl
  have hk := r_feed (I := I) (v := v) (w := w) (x := y) (y := z) (z := s) (l := tp) hR hW.1.1 hd
  rw [hI0] at hk
  refine jC_mono hk ?_
  rintro r J P' ⟨rfl, rfl, rfl⟩
  show rM I P' m a True _ 1 _ _ _ (tpR (jput I m 0 0) m a (tpF tp v w y z s)) P'
  have h0 := hS.p0 hR 0
  have fx : ∀ b, b ≠ m → b ≠ a 1 → tpR (jput I m 0 0) m a (tpF tp v w y z s) b = jput I m 0 0 b := fun b g1 g2 => by funext j; simp [tpR, g1, g2]
  have fm : ∀ k, k ≠ 2 → tpR (jput I m 0 0) m a (tpF tp v w y z s) m k = jput I m 0 0 m k := fun k g1 => by simp [tpR, g1, Ne.symm hn]
  refine ⟨rfl, fun b h1 h2 => ?_, Or.inl ⟨trivial, rfl, ?_, ?_⟩⟩
  · rw [fx b h1 (h2 1 (by decide))]
    funext j
    exact jput_a _ h1
  · rw [fm 0 (by decide), jput_s]
  · have er : ∀ j, j ∈ rfK → j ≠ 1 → tpR (jput I m 0 0) m a (tpF tp v w y z s) (a j) = jput I m 0 0 (a j) := fun j hj h1 => fx _ (hR.nm hj) (hR.d hj (by decide) h1)
    have e2 : tpR (jput I m 0 0) m a (tpF tp v w y z s) m 2 = ((tpF tp v w y z s).length : Int) := tpR_2
    have e1 : ∀ k, k < (tpF tp v w y z s).length → tpR (jput I m 0 0) m a (tpF tp v w y z s) (a 1) k = (tpF tp v w y z s).getD k 0 := fun k hk => by
      unfold tpR
      rw [if_neg (fun z => hn z.1), if_pos ⟨rfl, hk⟩]
    generalize tpF tp v w y z s = T at *
    generalize jput I m 0 0 = K at *
    show RW (tpR K m a T) m a T th X nb S l
    unfold RW at *
    rw [er 5 (by decide) (by decide), er 17 (by decide) (by decide), er 19 (by decide) (by decide), fm 3 (by decide), fm 4 (by decide), fm 16 (by decide), fm 20 (by decide), fm 21 (by decide)]
    exact ⟨⟨e2, e1⟩, fun i hi => ⟨(h0.2.1 i hi).1, fun h5 => ((h0.2.1 i hi).2 h5).cg (fun j g1 g2 => er j (rfK_515 j (by omega) g2) (by omega))⟩, h0.2.2.1, fun h4 k j g1 g2 => by rw [er 18 (by decide) (by decide)]; exact h0.2.2.2.1 h4 k j g1 g2, h0.2.2.2.2⟩
end JMv3
