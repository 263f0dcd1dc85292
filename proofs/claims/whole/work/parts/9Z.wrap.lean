section JWr
variable {E : jE} {I : jI} {P : jP} {h o d : Nat} {c t hb : Nat → Nat} {u : Nat → Nat → Nat} {C : Nat → Prop} {σ σ' : jSt}
/-- what the catching needs of the classes -/
def jNc (s : State) : Prop := va_Nc jIAE jNSE s
theorem jNc_m : ∀ u U : State, u.vm.Alike U.vm → jNc u → jNc U := fun _ _ h k => k.moved h
theorem w_text {p0 p1 p2 : Int} {cond : Prop} {ans ec : Int} (hK : KT E C h c t u hb I P σ) (ho : jAr E 14 o 1) (hoC : ¬ C o) (hk : jCx E yX6_text cX6_text 4 (some FieldType.int) d 1 [jp h, ji p0, ji p1, ji p2] I P (kQ E C h c t u hb I P cond ans σ') (kX I P cond erI ec)) : jCw E jNc yL_text cL_text 6 [(0, 12, 15, 13)] (d + 1) 1 [jp h, ji p0, ji p1, ji p2, jp o] I P (wQ E C h o c t u hb I P cond ans ec σ σ') := by
  refine jCw_intro (by decide +kernel) (by simp [jc, va_rf, Value.category]) (Nat.le_of_ble_eq_true rfl) ?_
  refine jJ_aload (pc := 0) dL_text_0 rfl ?_
  refine jJ_iconst (pc := 2) dL_text_2 (by decide) ?_
  refine jJ_aload_n (pc := 3) dL_text_3 rfl ?_
  refine jJ_iload_n (pc := 4) dL_text_4 rfl ?_
  refine jJ_iload_n (pc := 5) dL_text_5 rfl ?_
  refine jJ_iload_n (pc := 6) dL_text_6 rfl ?_
  refine jJ_callVc (pc := 7) (as := [_, _, _]) dL_text_7 mL_7 (jRcv_of hK.kh rfl rfl) (Nat.le_of_ble_eq_true rfl) ⟨Nat.le_refl _, by show _ ≤ 60 * (d + 1); omega, Nat.le_of_ble_eq_true rfl, Nat.le_of_ble_eq_true rfl⟩ hk ?_ ?_
  · rintro r J P' ⟨hc, rfl, hK', hF⟩
    refine jJ_i2l (pc := 10) dL_text_10 ?_
    refine jJ_last (pc := 11) dL_text_11 ho ⟨by decide, by decide⟩ ?_
    refine jJ_goto (pc := 12) (tgt := 19) dL_text_12 (by decide) ?_
    refine jJ_iconst (pc := 19) dL_text_19 (by decide) ?_
    exact jJ_iretw (pc := 20) dL_text_20 rfl ⟨Nat.le_of_ble_eq_true rfl, Nat.le_of_ble_eq_true rfl⟩ (wQ_1 hoC hc hK' hF)
  · rintro Ec J P' ⟨hc, ⟨rfl, rfl⟩, rfl, rfl⟩
    refine ⟨15, ⟨[], _, [], rfl, fun z hz => absurd hz List.not_mem_nil, by decide, by decide, ⟨jIAE, cl_IAE, ca_IAE⟩, rfl⟩, fun q => ?_⟩
    refine jJ_astore (pc := 15) (ls' := [_, _, _, _, _, _]) dL_text_15 (Nat.le_of_ble_eq_true rfl) rfl ?_
    refine jJ_iconst (pc := 17) dL_text_17 (by decide) ?_
    exact jJ_iretw (pc := 18) dL_text_18 rfl ⟨Nat.le_of_ble_eq_true rfl, Nat.le_of_ble_eq_true rfl⟩ (wQ_0 hc hK)
theorem w_fault {p0 : Int} {cond : Prop} {ans ec : Int} (hK : KT E C h c t u hb I P σ) (ho : jAr E 14 o 1) (hoC : ¬ C o) (hk : jCx E yX6_fault cX6_fault 2 (some FieldType.int) d 1 [jp h, ji p0] I P (kQ E C h c t u hb I P cond ans σ') (kX I P cond erN ec)) : jCw E jNc yL_fault cL_fault 4 [(0, 9, 12, 19)] (d + 1) 1 [jp h, ji p0, jp o] I P (wQ E C h o c t u hb I P cond ans ec σ σ') := by
  refine jCw_intro (by decide +kernel) (by simp [jc, va_rf, Value.category]) (Nat.le_of_ble_eq_true rfl) ?_
  refine jJ_aload_n (pc := 0) dL_fault_0 rfl ?_
  refine jJ_iconst (pc := 1) dL_fault_1 (by decide) ?_
  refine jJ_aload_n (pc := 2) dL_fault_2 rfl ?_
  refine jJ_iload_n (pc := 3) dL_fault_3 rfl ?_
  refine jJ_callVc (pc := 4) (as := [_]) dL_fault_4 mL_15 (jRcv_of hK.kh rfl rfl) (Nat.le_of_ble_eq_true rfl) ⟨Nat.le_refl _, by show _ ≤ 60 * (d + 1); omega, Nat.le_of_ble_eq_true rfl, Nat.le_of_ble_eq_true rfl⟩ hk ?_ ?_
  · rintro r J P' ⟨hc, rfl, hK', hF⟩
    refine jJ_i2l (pc := 7) dL_fault_7 ?_
    refine jJ_last (pc := 8) dL_fault_8 ho ⟨by decide, by decide⟩ ?_
    refine jJ_goto (pc := 9) (tgt := 15) dL_fault_9 (by decide) ?_
    refine jJ_iconst (pc := 15) dL_fault_15 (by decide) ?_
    exact jJ_iretw (pc := 16) dL_fault_16 rfl ⟨Nat.le_of_ble_eq_true rfl, Nat.le_of_ble_eq_true rfl⟩ (wQ_1 hoC hc hK' hF)
  · rintro Ec J P' ⟨hc, ⟨rfl, rfl⟩, rfl, rfl⟩
    refine ⟨12, ⟨[], _, [], rfl, fun z hz => absurd hz List.not_mem_nil, by decide, by decide, ⟨jNSE, cl_NSE, ca_NSE⟩, rfl⟩, fun q => ?_⟩
    refine jJ_astore_n (pc := 12) (ls' := [_, _, _, _]) dL_fault_12 (Nat.le_of_ble_eq_true rfl) rfl ?_
    refine jJ_iconst (pc := 13) dL_fault_13 (by decide) ?_
    exact jJ_iretw (pc := 14) dL_fault_14 rfl ⟨Nat.le_of_ble_eq_true rfl, Nat.le_of_ble_eq_true rfl⟩ (wQ_0 hc hK)
theorem w_drop {p0 : Int} {cond : Prop} {ans ec : Int} (hK : KT E C h c t u hb I P σ) (ho : jAr E 14 o 1) (hoC : ¬ C o) (hk : jCx E yX6_drop cX6_drop 3 (some FieldType.boolean) d 1 [jp h, ji p0] I P (kQ E C h c t u hb I P cond ans σ') (kX I P cond erI ec)) (h01 : cond → ans = 0 ∨ ans = 1) : jCw E jNc yL_drop cL_drop 4 [(0, 16, 19, 13)] (d + 1) 1 [jp h, ji p0, jp o] I P (wQ E C h o c t u hb I P cond ans ec σ σ') := by
  refine jCw_intro (by decide +kernel) (by simp [jc, va_rf, Value.category]) (Nat.le_of_ble_eq_true rfl) ?_
  refine jJ_aload_n (pc := 0) dL_drop_0 rfl ?_
  refine jJ_iconst (pc := 1) dL_drop_1 (by decide) ?_
  refine jJ_aload_n (pc := 2) dL_drop_2 rfl ?_
  refine jJ_iload_n (pc := 3) dL_drop_3 rfl ?_
  refine jJ_callVc (pc := 4) (as := [_]) dL_drop_4 mL_21 (jRcv_of hK.kh rfl rfl) (Nat.le_of_ble_eq_true rfl) ⟨Nat.le_refl _, by show _ ≤ 60 * (d + 1); omega, Nat.le_of_ble_eq_true rfl, Nat.le_of_ble_eq_true rfl⟩ hk ?_ ?_
  · rintro r J P' ⟨hc, rfl, hK', hF⟩
    refine jJ_if_eq (pc := 7) (tgt := 14) dL_drop_7 (by decide) (fun c0 => ?_) (fun c0 => ?_)
    · subst c0
      refine jJ_lconst (pc := 14) (v := 0) dL_drop_14 (by decide) (by decide) ?_
      refine jJ_last (pc := 15) dL_drop_15 ho ⟨by decide, by decide⟩ ?_
      refine jJ_goto (pc := 16) (tgt := 22) dL_drop_16 (by decide) ?_
      refine jJ_iconst (pc := 22) dL_drop_22 (by decide) ?_
      exact jJ_iretw (pc := 23) dL_drop_23 rfl ⟨Nat.le_of_ble_eq_true rfl, Nat.le_of_ble_eq_true rfl⟩ (wQ_1 hoC hc hK' hF)
    · have c1 := (h01 hc).resolve_left c0
      subst c1
      refine jJ_lconst (pc := 10) (v := 1) dL_drop_10 (by decide) (by decide) ?_
      refine jJ_goto (pc := 11) (tgt := 15) dL_drop_11 (by decide) ?_
      refine jJ_last (pc := 15) dL_drop_15 ho ⟨by decide, by decide⟩ ?_
      refine jJ_goto (pc := 16) (tgt := 22) dL_drop_16 (by decide) ?_
      refine jJ_iconst (pc := 22) dL_drop_22 (by decide) ?_
      exact jJ_iretw (pc := 23) dL_drop_23 rfl ⟨Nat.le_of_ble_eq_true rfl, Nat.le_of_ble_eq_true rfl⟩ (wQ_1 hoC hc hK' hF)
  · rintro Ec J P' ⟨hc, ⟨rfl, rfl⟩, rfl, rfl⟩
    refine ⟨19, ⟨[], _, [], rfl, fun z hz => absurd hz List.not_mem_nil, by decide, by decide, ⟨jIAE, cl_IAE, ca_IAE⟩, rfl⟩, fun q => ?_⟩
    refine jJ_astore_n (pc := 19) (ls' := [_, _, _, _]) dL_drop_19 (Nat.le_of_ble_eq_true rfl) rfl ?_
    refine jJ_iconst (pc := 20) dL_drop_20 (by decide) ?_
    exact jJ_iretw (pc := 21) dL_drop_21 rfl ⟨Nat.le_of_ble_eq_true rfl, Nat.le_of_ble_eq_true rfl⟩ (wQ_0 hc hK)
theorem w_about {p0 p1 : Int} {cond : Prop} {ans ec : Int} (hK : KT E C h c t u hb I P σ) (ho : jAr E 14 o 1) (hoC : ¬ C o) (hk : jCx E yX6_about cX6_about 4 (some FieldType.int) d 2 [jp h, ji p0, ji p1] I P (kQ E C h c t u hb I P cond ans σ') (kX I P cond erN ec)) : jCw E jNc yL_about cL_about 5 [(0, 10, 13, 19)] (d + 1) 2 [jp h, ji p0, ji p1, jp o] I P (wQ E C h o c t u hb I P cond ans ec σ σ') := by
  refine jCw_intro (by decide +kernel) (by simp [jc, va_rf, Value.category]) (Nat.le_of_ble_eq_true rfl) ?_
  refine jJ_aload_n (pc := 0) dL_about_0 rfl ?_
  refine jJ_iconst (pc := 1) dL_about_1 (by decide) ?_
  refine jJ_aload_n (pc := 2) dL_about_2 rfl ?_
  refine jJ_iload_n (pc := 3) dL_about_3 rfl ?_
  refine jJ_iload_n (pc := 4) dL_about_4 rfl ?_
  refine jJ_callVc (pc := 5) (as := [_, _]) dL_about_5 mL_25 (jRcv_of hK.kh rfl rfl) (Nat.le_of_ble_eq_true rfl) ⟨Nat.le_refl _, by show _ ≤ 60 * (d + 1); omega, Nat.le_of_ble_eq_true rfl, Nat.le_of_ble_eq_true rfl⟩ hk ?_ ?_
  · rintro r J P' ⟨hc, rfl, hK', hF⟩
    refine jJ_i2l (pc := 8) dL_about_8 ?_
    refine jJ_last (pc := 9) dL_about_9 ho ⟨by decide, by decide⟩ ?_
    refine jJ_goto (pc := 10) (tgt := 17) dL_about_10 (by decide) ?_
    refine jJ_iconst (pc := 17) dL_about_17 (by decide) ?_
    exact jJ_iretw (pc := 18) dL_about_18 rfl ⟨Nat.le_of_ble_eq_true rfl, Nat.le_of_ble_eq_true rfl⟩ (wQ_1 hoC hc hK' hF)
  · rintro Ec J P' ⟨hc, ⟨rfl, rfl⟩, rfl, rfl⟩
    refine ⟨13, ⟨[], _, [], rfl, fun z hz => absurd hz List.not_mem_nil, by decide, by decide, ⟨jNSE, cl_NSE, ca_NSE⟩, rfl⟩, fun q => ?_⟩
    refine jJ_astore (pc := 13) (ls' := [_, _, _, _, _]) dL_about_13 (Nat.le_of_ble_eq_true rfl) rfl ?_
    refine jJ_iconst (pc := 15) dL_about_15 (by decide) ?_
    exact jJ_iretw (pc := 16) dL_about_16 rfl ⟨Nat.le_of_ble_eq_true rfl, Nat.le_of_ble_eq_true rfl⟩ (wQ_0 hc hK)
theorem w_gap {p0 p1 p2 : Int} {cond : Prop} {ans ec : Int} (hK : KT E C h c t u hb I P σ) (ho : jAr E 14 o 1) (hoC : ¬ C o) (hk : jCx E yX6_gap cX6_gap 5 (some FieldType.int) d 2 [jp h, ji p0, ji p1, ji p2] I P (kQ E C h c t u hb I P cond ans σ') (kX I P cond erN ec)) : jCw E jNc yL_gap cL_gap 6 [(0, 12, 15, 19)] (d + 1) 2 [jp h, ji p0, ji p1, ji p2, jp o] I P (wQ E C h o c t u hb I P cond ans ec σ σ') := by
  refine jCw_intro (by decide +kernel) (by simp [jc, va_rf, Value.category]) (Nat.le_of_ble_eq_true rfl) ?_
  refine jJ_aload (pc := 0) dL_gap_0 rfl ?_
  refine jJ_iconst (pc := 2) dL_gap_2 (by decide) ?_
  refine jJ_aload_n (pc := 3) dL_gap_3 rfl ?_
  refine jJ_iload_n (pc := 4) dL_gap_4 rfl ?_
  refine jJ_iload_n (pc := 5) dL_gap_5 rfl ?_
  refine jJ_iload_n (pc := 6) dL_gap_6 rfl ?_
  refine jJ_callVc (pc := 7) (as := [_, _, _]) dL_gap_7 mL_29 (jRcv_of hK.kh rfl rfl) (Nat.le_of_ble_eq_true rfl) ⟨Nat.le_refl _, by show _ ≤ 60 * (d + 1); omega, Nat.le_of_ble_eq_true rfl, Nat.le_of_ble_eq_true rfl⟩ hk ?_ ?_
  · rintro r J P' ⟨hc, rfl, hK', hF⟩
    refine jJ_i2l (pc := 10) dL_gap_10 ?_
    refine jJ_last (pc := 11) dL_gap_11 ho ⟨by decide, by decide⟩ ?_
    refine jJ_goto (pc := 12) (tgt := 19) dL_gap_12 (by decide) ?_
    refine jJ_iconst (pc := 19) dL_gap_19 (by decide) ?_
    exact jJ_iretw (pc := 20) dL_gap_20 rfl ⟨Nat.le_of_ble_eq_true rfl, Nat.le_of_ble_eq_true rfl⟩ (wQ_1 hoC hc hK' hF)
  · rintro Ec J P' ⟨hc, ⟨rfl, rfl⟩, rfl, rfl⟩
    refine ⟨15, ⟨[], _, [], rfl, fun z hz => absurd hz List.not_mem_nil, by decide, by decide, ⟨jNSE, cl_NSE, ca_NSE⟩, rfl⟩, fun q => ?_⟩
    refine jJ_astore (pc := 15) (ls' := [_, _, _, _, _, _]) dL_gap_15 (Nat.le_of_ble_eq_true rfl) rfl ?_
    refine jJ_iconst (pc := 17) dL_gap_17 (by decide) ?_
    exact jJ_iretw (pc := 18) dL_gap_18 rfl ⟨Nat.le_of_ble_eq_true rfl, Nat.le_of_ble_eq_true rfl⟩ (wQ_0 hc hK)
theorem w_seen {p0 p1 : Int} {cond : Prop} {ans ec : Int} (hK : KT E C h c t u hb I P σ) (ho : jAr E 14 o 1) (hoC : ¬ C o) (hk : jCx E yX6_seen cX6_seen 5 (some FieldType.int) d 1 [jp h, ji p0, ji p1] I P (kQ E C h c t u hb I P cond ans σ') (kX I P cond erI ec)) : jCw E jNc yL_seen cL_seen 5 [(0, 10, 13, 13)] (d + 1) 1 [jp h, ji p0, ji p1, jp o] I P (wQ E C h o c t u hb I P cond ans ec σ σ') := by
  refine jCw_intro (by decide +kernel) (by simp [jc, va_rf, Value.category]) (Nat.le_of_ble_eq_true rfl) ?_
  refine jJ_aload_n (pc := 0) dL_seen_0 rfl ?_
  refine jJ_iconst (pc := 1) dL_seen_1 (by decide) ?_
  refine jJ_aload_n (pc := 2) dL_seen_2 rfl ?_
  refine jJ_iload_n (pc := 3) dL_seen_3 rfl ?_
  refine jJ_iload_n (pc := 4) dL_seen_4 rfl ?_
  refine jJ_callVc (pc := 5) (as := [_, _]) dL_seen_5 mL_32 (jRcv_of hK.kh rfl rfl) (Nat.le_of_ble_eq_true rfl) ⟨Nat.le_refl _, by show _ ≤ 60 * (d + 1); omega, Nat.le_of_ble_eq_true rfl, Nat.le_of_ble_eq_true rfl⟩ hk ?_ ?_
  · rintro r J P' ⟨hc, rfl, hK', hF⟩
    refine jJ_i2l (pc := 8) dL_seen_8 ?_
    refine jJ_last (pc := 9) dL_seen_9 ho ⟨by decide, by decide⟩ ?_
    refine jJ_goto (pc := 10) (tgt := 17) dL_seen_10 (by decide) ?_
    refine jJ_iconst (pc := 17) dL_seen_17 (by decide) ?_
    exact jJ_iretw (pc := 18) dL_seen_18 rfl ⟨Nat.le_of_ble_eq_true rfl, Nat.le_of_ble_eq_true rfl⟩ (wQ_1 hoC hc hK' hF)
  · rintro Ec J P' ⟨hc, ⟨rfl, rfl⟩, rfl, rfl⟩
    refine ⟨13, ⟨[], _, [], rfl, fun z hz => absurd hz List.not_mem_nil, by decide, by decide, ⟨jIAE, cl_IAE, ca_IAE⟩, rfl⟩, fun q => ?_⟩
    refine jJ_astore (pc := 13) (ls' := [_, _, _, _, _]) dL_seen_13 (Nat.le_of_ble_eq_true rfl) rfl ?_
    refine jJ_iconst (pc := 15) dL_seen_15 (by decide) ?_
    exact jJ_iretw (pc := 16) dL_seen_16 rfl ⟨Nat.le_of_ble_eq_true rfl, Nat.le_of_ble_eq_true rfl⟩ (wQ_0 hc hK)
theorem w_price {p0 p1 : Int} {cond : Prop} {ans ec : Int} (hK : KT E C h c t u hb I P σ) (ho : jAr E 14 o 1) (hoC : ¬ C o) (hk : jCx E yX6_price cX6_price 4 (some FieldType.int) d 1 [jp h, ji p0, ji p1] I P (kQ E C h c t u hb I P cond ans σ') (kX I P cond erI ec)) : jCw E jNc yL_price cL_price 5 [(0, 10, 13, 13)] (d + 1) 1 [jp h, ji p0, ji p1, jp o] I P (wQ E C h o c t u hb I P cond ans ec σ σ') := by
  refine jCw_intro (by decide +kernel) (by simp [jc, va_rf, Value.category]) (Nat.le_of_ble_eq_true rfl) ?_
  refine jJ_aload_n (pc := 0) dL_price_0 rfl ?_
  refine jJ_iconst (pc := 1) dL_price_1 (by decide) ?_
  refine jJ_aload_n (pc := 2) dL_price_2 rfl ?_
  refine jJ_iload_n (pc := 3) dL_price_3 rfl ?_
  refine jJ_iload_n (pc := 4) dL_price_4 rfl ?_
  refine jJ_callVc (pc := 5) (as := [_, _]) dL_price_5 mL_35 (jRcv_of hK.kh rfl rfl) (Nat.le_of_ble_eq_true rfl) ⟨Nat.le_refl _, by show _ ≤ 60 * (d + 1); omega, Nat.le_of_ble_eq_true rfl, Nat.le_of_ble_eq_true rfl⟩ hk ?_ ?_
  · rintro r J P' ⟨hc, rfl, hK', hF⟩
    refine jJ_i2l (pc := 8) dL_price_8 ?_
    refine jJ_last (pc := 9) dL_price_9 ho ⟨by decide, by decide⟩ ?_
    refine jJ_goto (pc := 10) (tgt := 17) dL_price_10 (by decide) ?_
    refine jJ_iconst (pc := 17) dL_price_17 (by decide) ?_
    exact jJ_iretw (pc := 18) dL_price_18 rfl ⟨Nat.le_of_ble_eq_true rfl, Nat.le_of_ble_eq_true rfl⟩ (wQ_1 hoC hc hK' hF)
  · rintro Ec J P' ⟨hc, ⟨rfl, rfl⟩, rfl, rfl⟩
    refine ⟨13, ⟨[], _, [], rfl, fun z hz => absurd hz List.not_mem_nil, by decide, by decide, ⟨jIAE, cl_IAE, ca_IAE⟩, rfl⟩, fun q => ?_⟩
    refine jJ_astore (pc := 13) (ls' := [_, _, _, _, _]) dL_price_13 (Nat.le_of_ble_eq_true rfl) rfl ?_
    refine jJ_iconst (pc := 15) dL_price_15 (by decide) ?_
    exact jJ_iretw (pc := 16) dL_price_16 rfl ⟨Nat.le_of_ble_eq_true rfl, Nat.le_of_ble_eq_true rfl⟩ (wQ_0 hc hK)
theorem w_habit {p0 p1 : Int} {cond : Prop} {ans ec : Int} (hK : KT E C h c t u hb I P σ) (ho : jAr E 14 o 1) (hoC : ¬ C o) (hk : jCx E yX6_habit cX6_habit 3 (some FieldType.int) d 1 [jp h, ji p0, ji p1] I P (kQ E C h c t u hb I P cond ans σ') (kX I P cond erI ec)) : jCw E jNc yL_habit cL_habit 5 [(0, 10, 13, 13)] (d + 1) 1 [jp h, ji p0, ji p1, jp o] I P (wQ E C h o c t u hb I P cond ans ec σ σ') := by
  refine jCw_intro (by decide +kernel) (by simp [jc, va_rf, Value.category]) (Nat.le_of_ble_eq_true rfl) ?_
  refine jJ_aload_n (pc := 0) dL_habit_0 rfl ?_
  refine jJ_iconst (pc := 1) dL_habit_1 (by decide) ?_
  refine jJ_aload_n (pc := 2) dL_habit_2 rfl ?_
  refine jJ_iload_n (pc := 3) dL_habit_3 rfl ?_
  refine jJ_iload_n (pc := 4) dL_habit_4 rfl ?_
  refine jJ_callVc (pc := 5) (as := [_, _]) dL_habit_5 mL_38 (jRcv_of hK.kh rfl rfl) (Nat.le_of_ble_eq_true rfl) ⟨Nat.le_refl _, by show _ ≤ 60 * (d + 1); omega, Nat.le_of_ble_eq_true rfl, Nat.le_of_ble_eq_true rfl⟩ hk ?_ ?_
  · rintro r J P' ⟨hc, rfl, hK', hF⟩
    refine jJ_i2l (pc := 8) dL_habit_8 ?_
    refine jJ_last (pc := 9) dL_habit_9 ho ⟨by decide, by decide⟩ ?_
    refine jJ_goto (pc := 10) (tgt := 17) dL_habit_10 (by decide) ?_
    refine jJ_iconst (pc := 17) dL_habit_17 (by decide) ?_
    exact jJ_iretw (pc := 18) dL_habit_18 rfl ⟨Nat.le_of_ble_eq_true rfl, Nat.le_of_ble_eq_true rfl⟩ (wQ_1 hoC hc hK' hF)
  · rintro Ec J P' ⟨hc, ⟨rfl, rfl⟩, rfl, rfl⟩
    refine ⟨13, ⟨[], _, [], rfl, fun z hz => absurd hz List.not_mem_nil, by decide, by decide, ⟨jIAE, cl_IAE, ca_IAE⟩, rfl⟩, fun q => ?_⟩
    refine jJ_astore (pc := 13) (ls' := [_, _, _, _, _]) dL_habit_13 (Nat.le_of_ble_eq_true rfl) rfl ?_
    refine jJ_iconst (pc := 15) dL_habit_15 (by decide) ?_
    exact jJ_iretw (pc := 16) dL_habit_16 rfl ⟨Nat.le_of_ble_eq_true rfl, Nat.le_of_ble_eq_true rfl⟩ (wQ_0 hc hK)
theorem w_exception {p0 p1 : Int} {cond : Prop} {ans ec : Int} (hK : KT E C h c t u hb I P σ) (ho : jAr E 14 o 1) (hoC : ¬ C o) (hk : jCx E yX6_exception cX6_exception 7 (some FieldType.int) d 2 [jp h, ji p0, ji p1] I P (kQ E C h c t u hb I P cond ans σ') (kX I P cond erB ec)) : jCw E jNc yL_exception cL_exception 5 [(0, 10, 13, 19), (0, 10, 17, 13)] (d + 1) 2 [jp h, ji p0, ji p1, jp o] I P (wQ E C h o c t u hb I P cond ans ec σ σ') := by
  refine jCw_intro (by decide +kernel) (by simp [jc, va_rf, Value.category]) (Nat.le_of_ble_eq_true rfl) ?_
  refine jJ_aload_n (pc := 0) dL_exception_0 rfl ?_
  refine jJ_iconst (pc := 1) dL_exception_1 (by decide) ?_
  refine jJ_aload_n (pc := 2) dL_exception_2 rfl ?_
  refine jJ_iload_n (pc := 3) dL_exception_3 rfl ?_
  refine jJ_iload_n (pc := 4) dL_exception_4 rfl ?_
  refine jJ_callVc (pc := 5) (as := [_, _]) dL_exception_5 mL_41 (jRcv_of hK.kh rfl rfl) (Nat.le_of_ble_eq_true rfl) ⟨Nat.le_refl _, by show _ ≤ 60 * (d + 1); omega, Nat.le_of_ble_eq_true rfl, Nat.le_of_ble_eq_true rfl⟩ hk ?_ ?_
  · rintro r J P' ⟨hc, rfl, hK', hF⟩
    refine jJ_i2l (pc := 8) dL_exception_8 ?_
    refine jJ_last (pc := 9) dL_exception_9 ho ⟨by decide, by decide⟩ ?_
    refine jJ_goto (pc := 10) (tgt := 21) dL_exception_10 (by decide) ?_
    refine jJ_iconst (pc := 21) dL_exception_21 (by decide) ?_
    exact jJ_iretw (pc := 22) dL_exception_22 rfl ⟨Nat.le_of_ble_eq_true rfl, Nat.le_of_ble_eq_true rfl⟩ (wQ_1 hoC hc hK' hF)
  · rintro Ec J P' ⟨hc, ⟨rfl, rfl⟩ | ⟨rfl, rfl⟩, rfl, rfl⟩
    · skip
      refine ⟨13, ⟨[], _, [_], rfl, fun z hz => absurd hz List.not_mem_nil, by decide, by decide, ⟨jNSE, cl_NSE, ca_NSE⟩, rfl⟩, fun q => ?_⟩
      refine jJ_astore (pc := 13) (ls' := [_, _, _, _, _]) dL_exception_13 (Nat.le_of_ble_eq_true rfl) rfl ?_
      refine jJ_iconst (pc := 15) dL_exception_15 (by decide) ?_
      exact jJ_iretw (pc := 16) dL_exception_16 rfl ⟨Nat.le_of_ble_eq_true rfl, Nat.le_of_ble_eq_true rfl⟩ (wQ_0 hc hK)
    · skip
      refine ⟨17, ⟨[_], _, [], rfl, fun z hz => by obtain rfl := List.mem_singleton.mp hz; exact Or.inr ⟨by decide, jNSE, cl_NSE, fun s hs => hs⟩, by decide, by decide, ⟨jIAE, cl_IAE, ca_IAE⟩, rfl⟩, fun q => ?_⟩
      refine jJ_astore (pc := 17) (ls' := [_, _, _, _, _]) dL_exception_17 (Nat.le_of_ble_eq_true rfl) rfl ?_
      refine jJ_iconst (pc := 19) dL_exception_19 (by decide) ?_
      exact jJ_iretw (pc := 20) dL_exception_20 rfl ⟨Nat.le_of_ble_eq_true rfl, Nat.le_of_ble_eq_true rfl⟩ (wQ_0 hc hK)
theorem w_lay {p0 : Int} {cond : Prop} {ans ec : Int} (hK : KT E C h c t u hb I P σ) (ho : jAr E 14 o 1) (hoC : ¬ C o) (hk : jCx E yX6_lay cX6_lay 4 (some FieldType.int) d 1 [jp h, ji p0] I P (kQ E C h c t u hb I P cond ans σ') (kX I P cond erN ec)) : jCw E jNc yL_lay cL_lay 4 [(0, 9, 12, 19)] (d + 1) 1 [jp h, ji p0, jp o] I P (wQ E C h o c t u hb I P cond ans ec σ σ') := by
  refine jCw_intro (by decide +kernel) (by simp [jc, va_rf, Value.category]) (Nat.le_of_ble_eq_true rfl) ?_
  refine jJ_aload_n (pc := 0) dL_lay_0 rfl ?_
  refine jJ_iconst (pc := 1) dL_lay_1 (by decide) ?_
  refine jJ_aload_n (pc := 2) dL_lay_2 rfl ?_
  refine jJ_iload_n (pc := 3) dL_lay_3 rfl ?_
  refine jJ_callVc (pc := 4) (as := [_]) dL_lay_4 mL_44 (jRcv_of hK.kh rfl rfl) (Nat.le_of_ble_eq_true rfl) ⟨Nat.le_refl _, by show _ ≤ 60 * (d + 1); omega, Nat.le_of_ble_eq_true rfl, Nat.le_of_ble_eq_true rfl⟩ hk ?_ ?_
  · rintro r J P' ⟨hc, rfl, hK', hF⟩
    refine jJ_i2l (pc := 7) dL_lay_7 ?_
    refine jJ_last (pc := 8) dL_lay_8 ho ⟨by decide, by decide⟩ ?_
    refine jJ_goto (pc := 9) (tgt := 15) dL_lay_9 (by decide) ?_
    refine jJ_iconst (pc := 15) dL_lay_15 (by decide) ?_
    exact jJ_iretw (pc := 16) dL_lay_16 rfl ⟨Nat.le_of_ble_eq_true rfl, Nat.le_of_ble_eq_true rfl⟩ (wQ_1 hoC hc hK' hF)
  · rintro Ec J P' ⟨hc, ⟨rfl, rfl⟩, rfl, rfl⟩
    refine ⟨12, ⟨[], _, [], rfl, fun z hz => absurd hz List.not_mem_nil, by decide, by decide, ⟨jNSE, cl_NSE, ca_NSE⟩, rfl⟩, fun q => ?_⟩
    refine jJ_astore_n (pc := 12) (ls' := [_, _, _, _]) dL_lay_12 (Nat.le_of_ble_eq_true rfl) rfl ?_
    refine jJ_iconst (pc := 13) dL_lay_13 (by decide) ?_
    exact jJ_iretw (pc := 14) dL_lay_14 rfl ⟨Nat.le_of_ble_eq_true rfl, Nat.le_of_ble_eq_true rfl⟩ (wQ_0 hc hK)
theorem w_turn {p0 p1 : Int} {cond : Prop} {ans ec : Int} (hK : KT E C h c t u hb I P σ) (ho : jAr E 14 o 1) (hoC : ¬ C o) (hk : jCx E yX6_turn cX6_turn 6 (some FieldType.int) d 2 [jp h, ji p0, ji p1] I P (kQ E C h c t u hb I P cond ans σ') (kX I P cond erB ec)) : jCw E jNc yL_turn cL_turn 5 [(0, 10, 13, 19), (0, 10, 17, 13)] (d + 1) 2 [jp h, ji p0, ji p1, jp o] I P (wQ E C h o c t u hb I P cond ans ec σ σ') := by
  refine jCw_intro (by decide +kernel) (by simp [jc, va_rf, Value.category]) (Nat.le_of_ble_eq_true rfl) ?_
  refine jJ_aload_n (pc := 0) dL_turn_0 rfl ?_
  refine jJ_iconst (pc := 1) dL_turn_1 (by decide) ?_
  refine jJ_aload_n (pc := 2) dL_turn_2 rfl ?_
  refine jJ_iload_n (pc := 3) dL_turn_3 rfl ?_
  refine jJ_iload_n (pc := 4) dL_turn_4 rfl ?_
  refine jJ_callVc (pc := 5) (as := [_, _]) dL_turn_5 mL_47 (jRcv_of hK.kh rfl rfl) (Nat.le_of_ble_eq_true rfl) ⟨Nat.le_refl _, by show _ ≤ 60 * (d + 1); omega, Nat.le_of_ble_eq_true rfl, Nat.le_of_ble_eq_true rfl⟩ hk ?_ ?_
  · rintro r J P' ⟨hc, rfl, hK', hF⟩
    refine jJ_i2l (pc := 8) dL_turn_8 ?_
    refine jJ_last (pc := 9) dL_turn_9 ho ⟨by decide, by decide⟩ ?_
    refine jJ_goto (pc := 10) (tgt := 21) dL_turn_10 (by decide) ?_
    refine jJ_iconst (pc := 21) dL_turn_21 (by decide) ?_
    exact jJ_iretw (pc := 22) dL_turn_22 rfl ⟨Nat.le_of_ble_eq_true rfl, Nat.le_of_ble_eq_true rfl⟩ (wQ_1 hoC hc hK' hF)
  · rintro Ec J P' ⟨hc, ⟨rfl, rfl⟩ | ⟨rfl, rfl⟩, rfl, rfl⟩
    · skip
      refine ⟨13, ⟨[], _, [_], rfl, fun z hz => absurd hz List.not_mem_nil, by decide, by decide, ⟨jNSE, cl_NSE, ca_NSE⟩, rfl⟩, fun q => ?_⟩
      refine jJ_astore (pc := 13) (ls' := [_, _, _, _, _]) dL_turn_13 (Nat.le_of_ble_eq_true rfl) rfl ?_
      refine jJ_iconst (pc := 15) dL_turn_15 (by decide) ?_
      exact jJ_iretw (pc := 16) dL_turn_16 rfl ⟨Nat.le_of_ble_eq_true rfl, Nat.le_of_ble_eq_true rfl⟩ (wQ_0 hc hK)
    · skip
      refine ⟨17, ⟨[_], _, [], rfl, fun z hz => by obtain rfl := List.mem_singleton.mp hz; exact Or.inr ⟨by decide, jNSE, cl_NSE, fun s hs => hs⟩, by decide, by decide, ⟨jIAE, cl_IAE, ca_IAE⟩, rfl⟩, fun q => ?_⟩
      refine jJ_astore (pc := 17) (ls' := [_, _, _, _, _]) dL_turn_17 (Nat.le_of_ble_eq_true rfl) rfl ?_
      refine jJ_iconst (pc := 19) dL_turn_19 (by decide) ?_
      exact jJ_iretw (pc := 20) dL_turn_20 rfl ⟨Nat.le_of_ble_eq_true rfl, Nat.le_of_ble_eq_true rfl⟩ (wQ_0 hc hK)
theorem w_told {p0 : Int} {cond : Prop} {ans ec : Int} (hK : KT E C h c t u hb I P σ) (ho : jAr E 14 o 1) (hoC : ¬ C o) (hk : jCx E yX6_told cX6_told 2 (some FieldType.int) d 1 [jp h, ji p0] I P (kQ E C h c t u hb I P cond ans σ') (kX I P cond erN ec)) : jCw E jNc yL_told cL_told 4 [(0, 9, 12, 19)] (d + 1) 1 [jp h, ji p0, jp o] I P (wQ E C h o c t u hb I P cond ans ec σ σ') := by
  refine jCw_intro (by decide +kernel) (by simp [jc, va_rf, Value.category]) (Nat.le_of_ble_eq_true rfl) ?_
  refine jJ_aload_n (pc := 0) dL_told_0 rfl ?_
  refine jJ_iconst (pc := 1) dL_told_1 (by decide) ?_
  refine jJ_aload_n (pc := 2) dL_told_2 rfl ?_
  refine jJ_iload_n (pc := 3) dL_told_3 rfl ?_
  refine jJ_callVc (pc := 4) (as := [_]) dL_told_4 mL_50 (jRcv_of hK.kh rfl rfl) (Nat.le_of_ble_eq_true rfl) ⟨Nat.le_refl _, by show _ ≤ 60 * (d + 1); omega, Nat.le_of_ble_eq_true rfl, Nat.le_of_ble_eq_true rfl⟩ hk ?_ ?_
  · rintro r J P' ⟨hc, rfl, hK', hF⟩
    refine jJ_i2l (pc := 7) dL_told_7 ?_
    refine jJ_last (pc := 8) dL_told_8 ho ⟨by decide, by decide⟩ ?_
    refine jJ_goto (pc := 9) (tgt := 15) dL_told_9 (by decide) ?_
    refine jJ_iconst (pc := 15) dL_told_15 (by decide) ?_
    exact jJ_iretw (pc := 16) dL_told_16 rfl ⟨Nat.le_of_ble_eq_true rfl, Nat.le_of_ble_eq_true rfl⟩ (wQ_1 hoC hc hK' hF)
  · rintro Ec J P' ⟨hc, ⟨rfl, rfl⟩, rfl, rfl⟩
    refine ⟨12, ⟨[], _, [], rfl, fun z hz => absurd hz List.not_mem_nil, by decide, by decide, ⟨jNSE, cl_NSE, ca_NSE⟩, rfl⟩, fun q => ?_⟩
    refine jJ_astore_n (pc := 12) (ls' := [_, _, _, _]) dL_told_12 (Nat.le_of_ble_eq_true rfl) rfl ?_
    refine jJ_iconst (pc := 13) dL_told_13 (by decide) ?_
    exact jJ_iretw (pc := 14) dL_told_14 rfl ⟨Nat.le_of_ble_eq_true rfl, Nat.le_of_ble_eq_true rfl⟩ (wQ_0 hc hK)
theorem w_take {p0 : Int} {cond : Prop} {ans ec : Int} (hK : KT E C h c t u hb I P σ) (ho : jAr E 14 o 1) (hoC : ¬ C o) (hk : jCx E yX6_take cX6_take 3 (some FieldType.boolean) d 1 [jp h, ji p0] I P (kQ E C h c t u hb I P cond ans σ') (kX I P cond erN ec)) (h01 : cond → ans = 0 ∨ ans = 1) : jCw E jNc yL_take cL_take 4 [(0, 16, 19, 19)] (d + 1) 1 [jp h, ji p0, jp o] I P (wQ E C h o c t u hb I P cond ans ec σ σ') := by
  refine jCw_intro (by decide +kernel) (by simp [jc, va_rf, Value.category]) (Nat.le_of_ble_eq_true rfl) ?_
  refine jJ_aload_n (pc := 0) dL_take_0 rfl ?_
  refine jJ_iconst (pc := 1) dL_take_1 (by decide) ?_
  refine jJ_aload_n (pc := 2) dL_take_2 rfl ?_
  refine jJ_iload_n (pc := 3) dL_take_3 rfl ?_
  refine jJ_callVc (pc := 4) (as := [_]) dL_take_4 mL_53 (jRcv_of hK.kh rfl rfl) (Nat.le_of_ble_eq_true rfl) ⟨Nat.le_refl _, by show _ ≤ 60 * (d + 1); omega, Nat.le_of_ble_eq_true rfl, Nat.le_of_ble_eq_true rfl⟩ hk ?_ ?_
  · rintro r J P' ⟨hc, rfl, hK', hF⟩
    refine jJ_if_eq (pc := 7) (tgt := 14) dL_take_7 (by decide) (fun c0 => ?_) (fun c0 => ?_)
    · subst c0
      refine jJ_lconst (pc := 14) (v := 0) dL_take_14 (by decide) (by decide) ?_
      refine jJ_last (pc := 15) dL_take_15 ho ⟨by decide, by decide⟩ ?_
      refine jJ_goto (pc := 16) (tgt := 22) dL_take_16 (by decide) ?_
      refine jJ_iconst (pc := 22) dL_take_22 (by decide) ?_
      exact jJ_iretw (pc := 23) dL_take_23 rfl ⟨Nat.le_of_ble_eq_true rfl, Nat.le_of_ble_eq_true rfl⟩ (wQ_1 hoC hc hK' hF)
    · have c1 := (h01 hc).resolve_left c0
      subst c1
      refine jJ_lconst (pc := 10) (v := 1) dL_take_10 (by decide) (by decide) ?_
      refine jJ_goto (pc := 11) (tgt := 15) dL_take_11 (by decide) ?_
      refine jJ_last (pc := 15) dL_take_15 ho ⟨by decide, by decide⟩ ?_
      refine jJ_goto (pc := 16) (tgt := 22) dL_take_16 (by decide) ?_
      refine jJ_iconst (pc := 22) dL_take_22 (by decide) ?_
      exact jJ_iretw (pc := 23) dL_take_23 rfl ⟨Nat.le_of_ble_eq_true rfl, Nat.le_of_ble_eq_true rfl⟩ (wQ_1 hoC hc hK' hF)
  · rintro Ec J P' ⟨hc, ⟨rfl, rfl⟩, rfl, rfl⟩
    refine ⟨19, ⟨[], _, [], rfl, fun z hz => absurd hz List.not_mem_nil, by decide, by decide, ⟨jNSE, cl_NSE, ca_NSE⟩, rfl⟩, fun q => ?_⟩
    refine jJ_astore_n (pc := 19) (ls' := [_, _, _, _]) dL_take_19 (Nat.le_of_ble_eq_true rfl) rfl ?_
    refine jJ_iconst (pc := 20) dL_take_20 (by decide) ?_
    exact jJ_iretw (pc := 21) dL_take_21 rfl ⟨Nat.le_of_ble_eq_true rfl, Nat.le_of_ble_eq_true rfl⟩ (wQ_0 hc hK)
theorem w_alike {p0 p1 : Int} {cond : Prop} {ans ec : Int} (hK : KT E C h c t u hb I P σ) (ho : jAr E 14 o 1) (hoC : ¬ C o) (hk : jCx E yX6_alike cX6_alike 6 (some FieldType.boolean) d 2 [jp h, ji p0, ji p1] I P (kQ E C h c t u hb I P cond ans σ') (kX I P cond erN ec)) (h01 : cond → ans = 0 ∨ ans = 1) : jCw E jNc yL_alike cL_alike 5 [(0, 17, 20, 19)] (d + 1) 2 [jp h, ji p0, ji p1, jp o] I P (wQ E C h o c t u hb I P cond ans ec σ σ') := by
  refine jCw_intro (by decide +kernel) (by simp [jc, va_rf, Value.category]) (Nat.le_of_ble_eq_true rfl) ?_
  refine jJ_aload_n (pc := 0) dL_alike_0 rfl ?_
  refine jJ_iconst (pc := 1) dL_alike_1 (by decide) ?_
  refine jJ_aload_n (pc := 2) dL_alike_2 rfl ?_
  refine jJ_iload_n (pc := 3) dL_alike_3 rfl ?_
  refine jJ_iload_n (pc := 4) dL_alike_4 rfl ?_
  refine jJ_callVc (pc := 5) (as := [_, _]) dL_alike_5 mL_56 (jRcv_of hK.kh rfl rfl) (Nat.le_of_ble_eq_true rfl) ⟨Nat.le_refl _, by show _ ≤ 60 * (d + 1); omega, Nat.le_of_ble_eq_true rfl, Nat.le_of_ble_eq_true rfl⟩ hk ?_ ?_
  · rintro r J P' ⟨hc, rfl, hK', hF⟩
    refine jJ_if_eq (pc := 8) (tgt := 15) dL_alike_8 (by decide) (fun c0 => ?_) (fun c0 => ?_)
    · subst c0
      refine jJ_lconst (pc := 15) (v := 0) dL_alike_15 (by decide) (by decide) ?_
      refine jJ_last (pc := 16) dL_alike_16 ho ⟨by decide, by decide⟩ ?_
      refine jJ_goto (pc := 17) (tgt := 24) dL_alike_17 (by decide) ?_
      refine jJ_iconst (pc := 24) dL_alike_24 (by decide) ?_
      exact jJ_iretw (pc := 25) dL_alike_25 rfl ⟨Nat.le_of_ble_eq_true rfl, Nat.le_of_ble_eq_true rfl⟩ (wQ_1 hoC hc hK' hF)
    · have c1 := (h01 hc).resolve_left c0
      subst c1
      refine jJ_lconst (pc := 11) (v := 1) dL_alike_11 (by decide) (by decide) ?_
      refine jJ_goto (pc := 12) (tgt := 16) dL_alike_12 (by decide) ?_
      refine jJ_last (pc := 16) dL_alike_16 ho ⟨by decide, by decide⟩ ?_
      refine jJ_goto (pc := 17) (tgt := 24) dL_alike_17 (by decide) ?_
      refine jJ_iconst (pc := 24) dL_alike_24 (by decide) ?_
      exact jJ_iretw (pc := 25) dL_alike_25 rfl ⟨Nat.le_of_ble_eq_true rfl, Nat.le_of_ble_eq_true rfl⟩ (wQ_1 hoC hc hK' hF)
  · rintro Ec J P' ⟨hc, ⟨rfl, rfl⟩, rfl, rfl⟩
    refine ⟨20, ⟨[], _, [], rfl, fun z hz => absurd hz List.not_mem_nil, by decide, by decide, ⟨jNSE, cl_NSE, ca_NSE⟩, rfl⟩, fun q => ?_⟩
    refine jJ_astore (pc := 20) (ls' := [_, _, _, _, _]) dL_alike_20 (Nat.le_of_ble_eq_true rfl) rfl ?_
    refine jJ_iconst (pc := 22) dL_alike_22 (by decide) ?_
    exact jJ_iretw (pc := 23) dL_alike_23 rfl ⟨Nat.le_of_ble_eq_true rfl, Nat.le_of_ble_eq_true rfl⟩ (wQ_0 hc hK)
end JWr
