section JCts
variable {E : jE} {I : jI} {P : jP} {d b : Nat} {A : State → Prop}
theorem hv_arr {t : FieldType} (ht : ∃ u, t = .array u) (b : Nat) : narrow t (.ref b) = .ref b ∧ fits t (.ref b) = true := by
  obtain ⟨u, rfl⟩ := ht
  exact ⟨rfl, rfl⟩
theorem n_Maker (hb : jK E 1 b) (hd : 1 ≤ d) : jN E A yX1_init cX1_init 1 d 1 32 [jp b] I P (fun E' I' P' => ∃ r, RM (fun _ _ => 0) E I P b [(0, 8, 32, r)] E' I' P') := by
  refine jN_intro (by decide +kernel) rfl (by simp [jc, va_rf, Value.category]) (Nat.le_of_ble_eq_true rfl) ?_
  refine jJ_aload_n (pc := 0) dX1_init_0 rfl ?_
  refine jJ_objInit (pc := 1) dX1_init_1 oiX1 oiI oiC (Nat.le_of_ble_eq_true rfl) ⟨hd, by show 20 ≤ 60 * d; omega⟩ ?_
  refine jJ_aload_n (pc := 4) dX1_init_4 rfl ?_
  refine jJ_bipush (pc := 5) dX1_init_5 (by decide) ?_
  refine mk_row (pc := 7) (kd := 8) (n := 32) (RM.nil (zv := fun _ _ => 0) hb.1) hb.2 dX1_init_7 (Or.inl ⟨rfl, rfl⟩) ac_byte (by decide) ⟨Nat.le_of_ble_eq_true rfl, Nat.le_of_ble_eq_true rfl⟩ dX1_init_9 fX1_9F rfl (hv_arr ⟨_, rfl⟩) (by simp) (fun _ => rfl) ?_
  intro r E1 I1 P1 h1
  exact jJ_vretN (pc := 12) h1.1 dX1_init_12 rfl ⟨r, h1⟩
theorem n_Out (hb : jK E 2 b) (hd : 1 ≤ d) : jN E A yX2_init cX2_init 1 d 1 2000 [jp b] I P (fun E' I' P' => ∃ r, RM (fun _ _ => 0) E I P b [(0, 8, 2000, r)] E' I' P') := by
  refine jN_intro (by decide +kernel) rfl (by simp [jc, va_rf, Value.category]) (Nat.le_of_ble_eq_true rfl) ?_
  refine jJ_aload_n (pc := 0) dX2_init_0 rfl ?_
  refine jJ_objInit (pc := 1) dX2_init_1 oiX2 oiI oiC (Nat.le_of_ble_eq_true rfl) ⟨hd, by show 20 ≤ 60 * d; omega⟩ ?_
  refine jJ_aload_n (pc := 4) dX2_init_4 rfl ?_
  refine jJ_sipush (pc := 5) dX2_init_5 (by decide) ?_
  refine mk_row (pc := 8) (kd := 8) (n := 2000) (RM.nil (zv := fun _ _ => 0) hb.1) hb.2 dX2_init_8 (Or.inl ⟨rfl, rfl⟩) ac_byte (by decide) ⟨Nat.le_of_ble_eq_true rfl, Nat.le_of_ble_eq_true rfl⟩ dX2_init_10 fX2_9F rfl (hv_arr ⟨_, rfl⟩) (by simp) (fun _ => rfl) ?_
  intro r0 E0 I0 P0 h0
  exact jJ_vretN (pc := 13) h0.1 dX2_init_13 rfl ⟨r0, h0⟩
theorem n_Reader (hb : jK E 3 b) (hd : 1 ≤ d) : jN E A yX3_init cX3_init 1 d 1 6 [jp b] I P (fun E' I' P' => ∃ r, RM (fun _ _ => 0) E (jput I b 7 (-1)) P b [(0, 9, 6, r)] E' I' P') := by
  refine jN_intro (by decide +kernel) rfl (by simp [jc, va_rf, Value.category]) (Nat.le_of_ble_eq_true rfl) ?_
  refine jJ_aload_n (pc := 0) dX3_init_0 rfl ?_
  refine jJ_objInit (pc := 1) dX3_init_1 oiX3 oiI oiC (Nat.le_of_ble_eq_true rfl) ⟨hd, by show 20 ≤ 60 * d; omega⟩ ?_
  refine jJ_aload_n (pc := 4) dX3_init_4 rfl ?_
  refine jJ_bipush (pc := 5) dX3_init_5 (by decide) ?_
  refine mk_row (pc := 7) (kd := 9) (n := 6) (RM.nil (zv := fun _ _ => 0) hb.1) hb.2 dX3_init_7 (Or.inr (Or.inl ⟨rfl, rfl⟩)) ac_int (by decide) ⟨Nat.le_of_ble_eq_true rfl, Nat.le_of_ble_eq_true rfl⟩ dX3_init_9 fX3_9F rfl (hv_arr ⟨_, rfl⟩) (by simp) (fun _ => rfl) ?_
  intro r0 E0 I0 P0 h0
  have k3 := h0.jk hb.2
  refine jJ_aload_n (pc := 12) dX3_init_12 rfl ?_
  refine jJ_iconst (pc := 13) dX3_init_13 (by decide) ?_
  refine jJ_puti (pc := 14) dX3_init_14 fX3_15w rfl ⟨rfl, rfl⟩ k3 ?_
  exact jJ_vretN (pc := 17) h0.1 dX3_init_17 rfl ⟨r0, h0.put⟩
theorem n_Tally (hb : jK E 4 b) (hd : 1 ≤ d) : jN E A yX4_init cX4_init 1 d 2 303 [jp b] I P (fun E' I' P' => ∃ r0 r1, RM (fun _ _ => 0) E I P b [(0, 9, 3, r0), (1, 9, 300, r1)] E' I' P') := by
  refine jN_intro (by decide +kernel) rfl (by simp [jc, va_rf, Value.category]) (Nat.le_of_ble_eq_true rfl) ?_
  refine jJ_aload_n (pc := 0) dX4_init_0 rfl ?_
  refine jJ_objInit (pc := 1) dX4_init_1 oiX4 oiI oiC (Nat.le_of_ble_eq_true rfl) ⟨hd, by show 20 ≤ 60 * d; omega⟩ ?_
  refine jJ_aload_n (pc := 4) dX4_init_4 rfl ?_
  refine jJ_iconst (pc := 5) dX4_init_5 (by decide) ?_
  refine mk_row (pc := 6) (kd := 9) (n := 3) (RM.nil (zv := fun _ _ => 0) hb.1) hb.2 dX4_init_6 (Or.inr (Or.inl ⟨rfl, rfl⟩)) ac_int (by decide) ⟨Nat.le_of_ble_eq_true rfl, Nat.le_of_ble_eq_true rfl⟩ dX4_init_8 fX4_9F rfl (hv_arr ⟨_, rfl⟩) (by simp) (fun _ => rfl) ?_
  intro r0 E0 I0 P0 h0
  refine jJ_aload_n (pc := 11) dX4_init_11 rfl ?_
  refine jJ_sipush (pc := 12) dX4_init_12 (by decide) ?_
  refine mk_row (pc := 15) (kd := 9) (n := 300) h0 hb.2 dX4_init_15 (Or.inr (Or.inl ⟨rfl, rfl⟩)) ac_int (by decide) ⟨Nat.le_of_ble_eq_true rfl, Nat.le_of_ble_eq_true rfl⟩ dX4_init_17 fX4_15F rfl (hv_arr ⟨_, rfl⟩) (by simp) (fun _ => rfl) ?_
  intro r1 E1 I1 P1 h1
  exact jJ_vretN (pc := 20) h1.1 dX4_init_20 rfl ⟨r0, r1, h1⟩
theorem n_Text (hb : jK E 5 b) (hd : 1 ≤ d) : jN E A yX5_init cX5_init 1 d 8 2200 [jp b] I P (fun E' I' P' => ∃ q : Nat → Nat, RM (fun _ _ => 0) E I P b [(0, 8, 800, q 0), (1, 9, 200, q 1), (2, 9, 200, q 2), (3, 9, 200, q 3), (4, 9, 200, q 4), (5, 9, 200, q 5), (6, 9, 200, q 6), (7, 9, 200, q 7)] E' I' P') := by
  refine jN_intro (by decide +kernel) rfl (by simp [jc, va_rf, Value.category]) (Nat.le_of_ble_eq_true rfl) ?_
  refine jJ_aload_n (pc := 0) dX5_init_0 rfl ?_
  refine jJ_objInit (pc := 1) dX5_init_1 oiX5 oiI oiC (Nat.le_of_ble_eq_true rfl) ⟨hd, by show 20 ≤ 60 * d; omega⟩ ?_
  refine jJ_aload_n (pc := 4) dX5_init_4 rfl ?_
  refine jJ_sipush (pc := 5) dX5_init_5 (by decide) ?_
  refine mk_row (pc := 8) (kd := 8) (n := 800) (RM.nil (zv := fun _ _ => 0) hb.1) hb.2 dX5_init_8 (Or.inl ⟨rfl, rfl⟩) ac_byte (by decide) ⟨Nat.le_of_ble_eq_true rfl, Nat.le_of_ble_eq_true rfl⟩ dX5_init_10 fX5_9F rfl (hv_arr ⟨_, rfl⟩) (by simp) (fun _ => rfl) ?_
  intro r0 E0 I0 P0 h0
  refine jJ_aload_n (pc := 13) dX5_init_13 rfl ?_
  refine jJ_sipush (pc := 14) dX5_init_14 (by decide) ?_
  refine mk_row (pc := 17) (kd := 9) (n := 200) h0 hb.2 dX5_init_17 (Or.inr (Or.inl ⟨rfl, rfl⟩)) ac_int (by decide) ⟨Nat.le_of_ble_eq_true rfl, Nat.le_of_ble_eq_true rfl⟩ dX5_init_19 fX5_15F rfl (hv_arr ⟨_, rfl⟩) (by simp) (fun _ => rfl) ?_
  intro r1 E1 I1 P1 h1
  refine jJ_aload_n (pc := 22) dX5_init_22 rfl ?_
  refine jJ_sipush (pc := 23) dX5_init_23 (by decide) ?_
  refine mk_row (pc := 26) (kd := 9) (n := 200) h1 hb.2 dX5_init_26 (Or.inr (Or.inl ⟨rfl, rfl⟩)) ac_int (by decide) ⟨Nat.le_of_ble_eq_true rfl, Nat.le_of_ble_eq_true rfl⟩ dX5_init_28 fX5_19F rfl (hv_arr ⟨_, rfl⟩) (by simp) (fun _ => rfl) ?_
  intro r2 E2 I2 P2 h2
  refine jJ_aload_n (pc := 31) dX5_init_31 rfl ?_
  refine jJ_sipush (pc := 32) dX5_init_32 (by decide) ?_
  refine mk_row (pc := 35) (kd := 9) (n := 200) h2 hb.2 dX5_init_35 (Or.inr (Or.inl ⟨rfl, rfl⟩)) ac_int (by decide) ⟨Nat.le_of_ble_eq_true rfl, Nat.le_of_ble_eq_true rfl⟩ dX5_init_37 fX5_22F rfl (hv_arr ⟨_, rfl⟩) (by simp) (fun _ => rfl) ?_
  intro r3 E3 I3 P3 h3
  refine jJ_aload_n (pc := 40) dX5_init_40 rfl ?_
  refine jJ_sipush (pc := 41) dX5_init_41 (by decide) ?_
  refine mk_row (pc := 44) (kd := 9) (n := 200) h3 hb.2 dX5_init_44 (Or.inr (Or.inl ⟨rfl, rfl⟩)) ac_int (by decide) ⟨Nat.le_of_ble_eq_true rfl, Nat.le_of_ble_eq_true rfl⟩ dX5_init_46 fX5_25F rfl (hv_arr ⟨_, rfl⟩) (by simp) (fun _ => rfl) ?_
  intro r4 E4 I4 P4 h4
  refine jJ_aload_n (pc := 49) dX5_init_49 rfl ?_
  refine jJ_sipush (pc := 50) dX5_init_50 (by decide) ?_
  refine mk_row (pc := 53) (kd := 9) (n := 200) h4 hb.2 dX5_init_53 (Or.inr (Or.inl ⟨rfl, rfl⟩)) ac_int (by decide) ⟨Nat.le_of_ble_eq_true rfl, Nat.le_of_ble_eq_true rfl⟩ dX5_init_55 fX5_28F rfl (hv_arr ⟨_, rfl⟩) (by simp) (fun _ => rfl) ?_
  intro r5 E5 I5 P5 h5
  refine jJ_aload_n (pc := 58) dX5_init_58 rfl ?_
  refine jJ_sipush (pc := 59) dX5_init_59 (by decide) ?_
  refine mk_row (pc := 62) (kd := 9) (n := 200) h5 hb.2 dX5_init_62 (Or.inr (Or.inl ⟨rfl, rfl⟩)) ac_int (by decide) ⟨Nat.le_of_ble_eq_true rfl, Nat.le_of_ble_eq_true rfl⟩ dX5_init_64 fX5_31F rfl (hv_arr ⟨_, rfl⟩) (by simp) (fun _ => rfl) ?_
  intro r6 E6 I6 P6 h6
  refine jJ_aload_n (pc := 67) dX5_init_67 rfl ?_
  refine jJ_sipush (pc := 68) dX5_init_68 (by decide) ?_
  refine mk_row (pc := 71) (kd := 9) (n := 200) h6 hb.2 dX5_init_71 (Or.inr (Or.inl ⟨rfl, rfl⟩)) ac_int (by decide) ⟨Nat.le_of_ble_eq_true rfl, Nat.le_of_ble_eq_true rfl⟩ dX5_init_73 fX5_34F rfl (hv_arr ⟨_, rfl⟩) (by simp) (fun _ => rfl) ?_
  intro r7 E7 I7 P7 h7
  exact jJ_vretN (pc := 76) h7.1 dX5_init_76 rfl ⟨fun i => if i = 0 then r0 else if i = 1 then r1 else if i = 2 then r2 else if i = 3 then r3 else if i = 4 then r4 else if i = 5 then r5 else if i = 6 then r6 else r7, h7⟩
theorem n_Habit (hb : jK E 0 b) (hd : 1 ≤ d) : jN E A yX0_init cX0_init 1 d 0 0 [jp b] I P (fun E' I' P' => E' = E ∧ P' = P ∧ ∀ a, a ≠ b → I' a = I a) := by
  refine jN_intro (by decide +kernel) rfl (by simp [jc, va_rf, Value.category]) (Nat.le_of_ble_eq_true rfl) ?_
  refine jJ_aload_n (pc := 0) dX0_init_0 rfl ?_
  refine jJ_objInit (pc := 1) dX0_init_1 oiX0 oiI oiC (Nat.le_of_ble_eq_true rfl) ⟨hd, by show 20 ≤ 60 * d; omega⟩ ?_
  refine jJ_aload_n (pc := 4) dX0_init_4 rfl ?_
  refine jJ_iconst (pc := 5) dX0_init_5 (by decide) ?_
  refine jJ_puti (pc := 6) dX0_init_6 fX0_9w rfl ⟨rfl, rfl⟩ hb ?_
  refine jJ_aload_n (pc := 9) dX0_init_9 rfl ?_
  refine jJ_iconst (pc := 10) dX0_init_10 (by decide) ?_
  refine jJ_puti (pc := 11) dX0_init_11 fX0_15w rfl ⟨rfl, rfl⟩ hb ?_
  refine jJ_aload_n (pc := 14) dX0_init_14 rfl ?_
  refine jJ_iconst (pc := 15) dX0_init_15 (by decide) ?_
  refine jJ_puti (pc := 16) dX0_init_16 fX0_18w rfl ⟨rfl, rfl⟩ hb ?_
  refine jJ_aload_n (pc := 19) dX0_init_19 rfl ?_
  refine jJ_iconst (pc := 20) dX0_init_20 (by decide) ?_
  refine jJ_puti (pc := 21) dX0_init_21 fX0_21w rfl ⟨rfl, rfl⟩ hb ?_
  exact jJ_vretN (pc := 24) eSame.rf dX0_init_24 rfl ⟨rfl, rfl, fun a ha => by funext j; rw [jput_a _ ha, jput_a _ ha, jput_a _ ha, jput_a _ ha]⟩
end JCts
