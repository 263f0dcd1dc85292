section JDisp
variable {E : jE} {I : jI} {P : jP} {h m o b L z cs ss : Nat} {c t hb a : Nat → Nat} {u : Nat → Nat → Nat} {C : Nat → Prop} {σ : jSt} {xs : Nat → Int32} {i : Int} {l5 l6 : Option jV}
/-- one call of the script, by its number -/
theorem law_case {x : Int} (hl : (eX E).stackTraces = false) (hz : eZ E = z) (hG : GS E C h m o c t u hb a I P σ) (hi : 0 ≤ i ∧ i + 5 < L) (hL : L ≤ 3072) (hcs : cs + 2 ≤ 601024 ∧ ss + 12 ≤ 7293034)
    (kk : ∀ I' P' σ'' v5 v6, GS E C h m o c t u hb a I' P' σ'' → jJ E RL cL_law 7 (some .boolean) room_1 (jLZ b L xs z) (cs + 2) (ss + 12) 1160 [some (jp b), some (jp h), some (jp m), some (jp o), some (ji i), v5, v6] [] I' P') : jJ E RL cL_law 7 (some .boolean) room_1 (jLZ b L xs z) cs ss 40 [some (jp b), some (jp h), some (jp m), some (jp o), some (ji i), l5, l6] [ji x] I P := by
  by_cases hx : x < 0 ∨ 16 < x
  · exact jJ_tableOut (pc := 40) (tgt := 1160) dL_law_40 hx (by decide) (jJ_widen (by omega) (by omega) (kk I P σ l5 l6 hG))
  have hx2 : x = 0 ∨ x = 1 ∨ x = 2 ∨ x = 3 ∨ x = 4 ∨ x = 5 ∨ x = 6 ∨ x = 7 ∨ x = 8 ∨ x = 9 ∨ x = 10 ∨ x = 11 ∨ x = 12 ∨ x = 13 ∨ x = 14 ∨ x = 15 ∨ x = 16 := by omega
  obtain ⟨tp, th, X, nb, S, l⟩ := σ
  have hW : WS tp th X nb l := hG.2.2.2.1
  have hK : KS E C h c t u hb I P tp th X nb S l := hG.1
  have hK0 := hG.1
  obtain ⟨x0, q0, hL0, hD0, hA0, hS0⟩ := hG.1
  rcases hx2 with rfl | rfl | rfl | rfl | rfl | rfl | rfl | rfl | rfl | rfl | rfl | rfl | rfl | rfl | rfl | rfl | rfl
  · refine jJ_tableIn (pc := 40) (tgt := 124) dL_law_40 (by decide) rfl (by decide) ?_
    exact l_feed (σ' := (tpF tp _ _ _ _ _, th, X, nb, S, l)) hz hG hi hL hcs (jC_mono (k_feed hK hW (by decide)) (fun v I' P' ⟨e1, e2, e3⟩ => ⟨trivial, e1, e2, e3⟩)) (fun I1 P1 hR hV => m_feed hR hV hW (by decide)) hW.feed kk
  · refine jJ_tableIn (pc := 40) (tgt := 197) dL_law_40 (by decide) rfl (by decide) ?_
    exact l_text (σ' := ([], _, _, _, S, l)) (ec := 1) hz hG hi hL hcs (by decide) (k_mv (er := erI) ⟨rfl, rfl⟩ (k_text hl hK hW (by decide)) (fun _ _ _ z => z)) (fun I1 P1 hR hV => m_text hR hV hW (by decide)) (fun hc => hW.text hc) kk
  · refine jJ_tableIn (pc := 40) (tgt := 277) dL_law_40 (by decide) rfl (by decide) ?_
    exact l_fault (σ' := (tp, th, X, nb, S, l)) (ec := 1) hz hG hi hL hcs (by decide) (k_ro hK0 (er := erN) ⟨rfl, rfl⟩ (k_fault hl hL0 hS0 (by decide))) (fun I1 P1 hR hV => rO_rM hR hV (m_fault hR hV (by decide))) (fun _ => hW) kk
  · refine jJ_tableIn (pc := 40) (tgt := 333) dL_law_40 (by decide) rfl (by decide) ?_
    exact l_drop (σ' := (tp, _, X, _, S, l)) (ec := 1) hz hG hi hL hcs (by decide) (k_mv (er := erI) ⟨rfl, rfl⟩ (k_drop hl hK hW (by decide)) (fun _ _ _ z => z)) (fun I1 P1 hR hV => m_drop hR hV hW (by decide)) (fun _ => hW.drop) (fun hc => (hW.2.1 _ (by omega)).1) kk
  · refine jJ_tableIn (pc := 40) (tgt := 396) dL_law_40 (by decide) rfl (by decide) ?_
    exact l_about (σ' := (tp, th, X, nb, S, l)) (ec := 1) hz hG hi hL hcs (by decide) (k_ro hK0 (er := erN) ⟨rfl, rfl⟩ (k_about hl hL0 hS0 hW (by decide))) (fun I1 P1 hR hV => rO_rM hR hV (m_about hR hV (by decide))) (fun _ => hW) kk
  · refine jJ_tableIn (pc := 40) (tgt := 464) dL_law_40 (by decide) rfl (by decide) ?_
    exact l_gap (σ' := (tp, th, X, nb, S, l)) (ec := 1) hz hG hi hL hcs (by decide) (k_ro hK0 (er := erN) ⟨rfl, rfl⟩ (k_gap hl hL0 hS0 hW (by decide))) (fun I1 P1 hR hV => rO_rM hR hV (m_gap hR hV hW (by decide))) (fun _ => hW) kk
  · refine jJ_tableIn (pc := 40) (tgt := 544) dL_law_40 (by decide) rfl (by decide) ?_
    exact l_seen (σ' := (tp, th, X, nb, S, l)) (ec := 1) hz hG hi hL hcs (by decide) (k_ro hK0 (er := erI) ⟨rfl, rfl⟩ (k_seen hl hL0 hS0 hW (by decide))) (fun I1 P1 hR hV => rO_rM hR hV (m_seen hR hV hW (by decide))) (fun _ => hW) kk
  · refine jJ_tableIn (pc := 40) (tgt := 612) dL_law_40 (by decide) rfl (by decide) ?_
    exact l_price (σ' := (tp, th, X, _, S, l)) (ec := 1) hz hG hi hL hcs (by decide) (k_mv (er := erI) ⟨rfl, rfl⟩ (k_price hl hK (by decide)) (fun _ _ _ z => z)) (fun I1 P1 hR hV => m_price hR hV (by decide)) (fun hc => hW.price hc.2) kk
  · refine jJ_tableIn (pc := 40) (tgt := 680) dL_law_40 (by decide) rfl (by decide) ?_
    exact l_find (σ' := (tp, th, X, _, _, l)) hz hG hi hL hcs (jC_mono (k_find hK hW (by decide)) (fun v I' P' ⟨e1, e2, e3⟩ => ⟨trivial, e1, e2, e3⟩)) (fun I1 P1 hR hV => m_find hR hV hW (by decide)) hW.find kk
  · refine jJ_tableIn (pc := 40) (tgt := 693) dL_law_40 (by decide) rfl (by decide) ?_
    exact l_habit (σ' := (tp, th, X, nb, S, l)) (ec := 1) hz hG hi hL hcs (by decide) (k_ro hK0 (er := erI) ⟨rfl, rfl⟩ (k_habit hl hL0 hS0 (by decide))) (fun I1 P1 hR hV => rO_rM hR hV (m_habit hR hV (by decide))) (fun _ => hW) kk
  · refine jJ_tableIn (pc := 40) (tgt := 761) dL_law_40 (by decide) rfl (by decide) ?_
    refine l_exception (σ' := (tp, th, X, nb, S, l)) hz hG hi hL hcs ?_ ?_ (fun I1 P1 hR hV => rO_rM hR hV (m_exception hR hV hW (by decide))) (fun _ => hW) kk
    · split <;> decide
    · refine jCx_mono (k_exception hl hL0 hS0 hW (by decide)) ?_ ?_
      · rintro v I' P' ⟨z, rfl, rfl, rfl⟩
        exact ⟨z, rfl, hK0, FR.rf⟩
      · rintro Ec I' P' ⟨⟨z, rfl⟩ | ⟨z, z2, rfl⟩, rfl, rfl⟩
        · exact ⟨fun w => z w.1, Or.inl ⟨rfl, if_neg z⟩, rfl, rfl⟩
        · exact ⟨fun w => z2 w.2, Or.inr ⟨rfl, if_pos z⟩, rfl, rfl⟩
  · refine jJ_tableIn (pc := 40) (tgt := 829) dL_law_40 (by decide) rfl (by decide) ?_
    exact l_lay (σ' := (tp, th, X, _, S, _)) (ec := 1) hz hG hi hL hcs (by decide) (k_mv (er := erN) ⟨rfl, rfl⟩ (k_lay hl hK hW (by decide)) (fun _ _ _ z => z)) (fun I1 P1 hR hV => m_lay hR hV hW (by decide)) (fun hc => hW.outs (fun l' e => layR_ok ((hW.2.1 _ (by have := hc.1; have := hc.2.1; omega)).2 hc.2.2) e)) kk
  · refine jJ_tableIn (pc := 40) (tgt := 885) dL_law_40 (by decide) rfl (by decide) ?_
    refine l_turn (σ' := (tp, th, X, _, S, _)) hz hG hi hL hcs ?_ ?_ (fun I1 P1 hR hV => m_turn hR hV hW (by decide)) (fun hc => hW.outs (fun l' e => by have k := tuX_byt ((hW.2.1 _ (by have := hc.1.1; have := hc.1.2.1; omega)).2 hc.1.2.2) e; exact ⟨by omega, k.1⟩)) kk
    · split <;> decide
    · refine jCx_mono (k_turn hl hK hW (by decide)) (fun _ _ _ z => z) ?_
      rintro Ec I' P' ⟨⟨z, rfl⟩ | ⟨z, z2, rfl⟩, rfl, rfl⟩
      · exact ⟨fun w => z w.1, Or.inl ⟨rfl, if_neg z⟩, rfl, rfl⟩
      · exact ⟨fun w => z2 w.2, Or.inr ⟨rfl, if_pos z⟩, rfl, rfl⟩
  · refine jJ_tableIn (pc := 40) (tgt := 953) dL_law_40 (by decide) rfl (by decide) ?_
    exact l_house (σ' := (tp, th, X, nb, S, l)) hz hG hi hL hcs (jC_mono (k_house hK hW (by decide)) (fun v I' P' ⟨e1, e2, e3⟩ => ⟨trivial, e1, e2, e3⟩)) (fun I1 P1 hR hV => m_house hR hV hW (by decide)) hW kk
  · refine jJ_tableIn (pc := 40) (tgt := 966) dL_law_40 (by decide) rfl (by decide) ?_
    exact l_told (σ' := (tp, th, X, nb, S, l)) (ec := 1) hz hG hi hL hcs (by decide) (k_ro hK0 (er := erN) ⟨rfl, rfl⟩ (k_told hl hL0 hS0 hW (by decide))) (fun I1 P1 hR hV => rO_rM hR hV (m_told hR hV hW (by decide))) (fun _ => hW) kk
  · refine jJ_tableIn (pc := 40) (tgt := 1022) dL_law_40 (by decide) rfl (by decide) ?_
    exact l_take (σ' := (tp, _, _, _, S, l)) (ec := 1) hz hG hi hL hcs (by decide) (k_mv (er := erN) ⟨rfl, rfl⟩ (k_take hl hK hW (by decide)) (fun _ _ _ z => z)) (fun I1 P1 hR hV => m_take hR hV hW (by decide)) (fun hc => hW.take hc) (fun _ => jb_01) kk
  · refine jJ_tableIn (pc := 40) (tgt := 1085) dL_law_40 (by decide) rfl (by decide) ?_
    exact l_alike (σ' := (tp, th, X, nb, S, l)) (ec := 1) hz hG hi hL hcs (by decide) (k_ro hK0 (er := erN) ⟨rfl, rfl⟩ (k_alike hl hL0 hS0 hW (by decide))) (fun I1 P1 hR hV => rO_rM hR hV (m_alike hR hV hW (by decide))) (fun _ => hW) (fun _ => jb_01) kk
end JDisp
section JLoop
variable {E : jE} {I : jI} {P : jP} {h m o b L z : Nat} {c t hb a : Nat → Nat} {u : Nat → Nat → Nat} {C : Nat → Prop} {xs : Nat → Int32}
/-- the law's loop -/
theorem law_loop (hl : (eX E).stackTraces = false) (hz : eZ E = z) (hL : L ≤ 3072) : ∀ (n : Nat) (i cs ss : Nat) (I : jI) (P : jP) (σ : jSt) (l5 l6 : Option jV), L ≤ i + 6 * n → i ≤ 3100 → cs + 2 * n ≤ 601024 → ss + 12 * n ≤ 7293034 → GS E C h m o c t u hb a I P σ → jJ E RL cL_law 7 (some .boolean) room_1 (jLZ b L xs z) cs ss 23 [some (jp b), some (jp h), some (jp m), some (jp o), some (ji (i : Int)), l5, l6] [] I P := by
  intro n
  induction n with
  | zero =>
    intro i cs ss I P σ l5 l6 h1 h2 h3 h4 hG
    refine jJ_iload (pc := 23) dL_law_23 rfl ?_
    refine jJ_aload_n (pc := 25) dL_law_25 rfl ?_
    refine jJ_scrl (pc := 26) hz hL dL_law_26 ?_
    refine jJ_bipush (pc := 27) dL_law_27 (by decide) ?_
    refine jJ_isub (pc := 29) dL_law_29 ⟨by omega, by omega⟩ ?_
    refine jJ_icmp_gt (pc := 30) (tgt := 1166) dL_law_30 (by decide) (fun c30 => ?_) (fun c30 => ?_)
    · refine jJ_iconst (pc := 1166) dL_law_1166 (by decide) ?_
      exact jJ_lret (pc := 1167) hz ⟨by omega, by omega⟩ dL_law_1167
    · omega
  | succ n ih =>
    intro i cs ss I P σ l5 l6 h1 h2 h3 h4 hG
    refine jJ_iload (pc := 23) dL_law_23 rfl ?_
    refine jJ_aload_n (pc := 25) dL_law_25 rfl ?_
    refine jJ_scrl (pc := 26) hz hL dL_law_26 ?_
    refine jJ_bipush (pc := 27) dL_law_27 (by decide) ?_
    refine jJ_isub (pc := 29) dL_law_29 ⟨by omega, by omega⟩ ?_
    refine jJ_icmp_gt (pc := 30) (tgt := 1166) dL_law_30 (by decide) (fun c30 => ?_) (fun c30 => ?_)
    · refine jJ_iconst (pc := 1166) dL_law_1166 (by decide) ?_
      exact jJ_lret (pc := 1167) hz ⟨by omega, by omega⟩ dL_law_1167
    · refine jJ_aload_n (pc := 33) dL_law_33 rfl ?_
      refine jJ_iload (pc := 34) dL_law_34 rfl ?_
      refine jJ_sld (pc := 36) hz dL_law_36 ⟨by omega, by omega⟩ ?_
      refine jJ_bipush (pc := 37) dL_law_37 (by decide) ?_
      refine jJ_iand (pc := 39) dL_law_39 ?_
      refine law_case hl hz hG ⟨by omega, by omega⟩ hL ⟨by omega, by omega⟩ ?_
      intro I' P' σ'' v5 v6 hG'
      refine jJ_iinc (pc := 1160) (ls' := [_, _, _, _, _, _, _]) dL_law_1160 rfl ⟨by omega, by omega⟩ rfl ?_
      refine jJ_goto (pc := 1163) (tgt := 23) dL_law_1163 (by decide) ?_
      exact ih (i + 6) (cs + 2) (ss + 12) I' P' σ'' v5 v6 (by omega) (by omega) (by omega) (by omega) hG'
end JLoop
