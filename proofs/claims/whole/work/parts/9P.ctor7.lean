section JCt7
variable {E : jE} {I : jI} {P : jP} {d b : Nat} {A : State → Prop}
/-- the prices at the start -/
def zv7 (k j : Nat) : Int := if k = 17 ∧ j = 0 then 5 else if k = 17 ∧ j = 1 then 2 else 0
theorem n_Model (hb : jK E 7 b) (hd : 1 ≤ d) : jN E A yX7_init cX7_init 1 d 20 40939 [jp b] I P (fun E' I' P' => ∃ a : Nat → Nat, RM zv7 E (jput (jput I b 4 (-1)) b 21 (-1)) P b [(1, 9, 800, a 1), (5, 10, 12, a 5), (6, 9, 10400, a 6), (7, 9, 13, a 7), (8, 9, 13, a 8), (9, 9, 13, a 9), (10, 9, 13, a 10), (11, 9, 2613, a 11), (12, 9, 2613, a 12), (13, 9, 2613, a 13), (14, 9, 2613, a 14), (15, 9, 2613, a 15), (17, 9, 2, a 17), (18, 9, 128, a 18), (19, 9, 2000, a 19), (28, 9, 2400, a 28), (29, 9, 2400, a 29), (30, 9, 9600, a 30), (32, 9, 40, a 32), (33, 9, 40, a 33)] E' I' P') := by
  refine jN_intro (by decide +kernel) rfl (by simp [jc, va_rf, Value.category]) (Nat.le_of_ble_eq_true rfl) ?_
  refine jJ_aload_n (pc := 0) dX7_init_0 rfl ?_
  refine jJ_objInit (pc := 1) dX7_init_1 oiX7 oiI oiC (Nat.le_of_ble_eq_true rfl) ⟨hd, by show 20 ≤ 60 * d; omega⟩ ?_
  refine jJ_aload_n (pc := 4) dX7_init_4 rfl ?_
  refine jJ_sipush (pc := 5) dX7_init_5 (by decide) ?_
  refine mk_row (pc := 8) (kd := 9) (n := 800) (RM.nil (zv := zv7) hb.1) hb.2 dX7_init_8 (Or.inr (Or.inl ⟨rfl, rfl⟩)) ac_int (by decide) ⟨Nat.le_of_ble_eq_true rfl, Nat.le_of_ble_eq_true rfl⟩ dX7_init_10 fX7_7F rfl (hv_arr ⟨_, rfl⟩) (by simp) (fun j => by simp [zv7]) ?_
  intro r0 E0 I0 P0 h0
  have k1 := h0.jk hb.2
  refine jJ_aload_n (pc := 13) dX7_init_13 rfl ?_
  refine jJ_iconst (pc := 14) dX7_init_14 (by decide) ?_
  refine jJ_puti (pc := 15) dX7_init_15 fX7_13w rfl ⟨rfl, rfl⟩ k1 ?_
  have g1 := h0.put (k := 4) (v := -1)
  refine jJ_aload_n (pc := 18) dX7_init_18 rfl ?_
  refine jJ_bipush (pc := 19) dX7_init_19 (by decide) ?_
  refine mk_row (pc := 21) (kd := 10) (n := 12) g1 hb.2 dX7_init_21 (Or.inr (Or.inr (Or.inl ⟨rfl, rfl⟩))) ac_boolean (by decide) ⟨Nat.le_of_ble_eq_true rfl, Nat.le_of_ble_eq_true rfl⟩ dX7_init_23 fX7_17F rfl (hv_arr ⟨_, rfl⟩) (by simp) (fun j => by simp [zv7]) ?_
  intro r1 E1 I1 P1 h1
  refine jJ_aload_n (pc := 26) dX7_init_26 rfl ?_
  refine jJ_sipush (pc := 27) dX7_init_27 (by decide) ?_
  refine mk_row (pc := 30) (kd := 9) (n := 10400) h1 hb.2 dX7_init_30 (Or.inr (Or.inl ⟨rfl, rfl⟩)) ac_int (by decide) ⟨Nat.le_of_ble_eq_true rfl, Nat.le_of_ble_eq_true rfl⟩ dX7_init_32 fX7_21F rfl (hv_arr ⟨_, rfl⟩) (by simp) (fun j => by simp [zv7]) ?_
  intro r2 E2 I2 P2 h2
  refine jJ_aload_n (pc := 35) dX7_init_35 rfl ?_
  refine jJ_bipush (pc := 36) dX7_init_36 (by decide) ?_
  refine mk_row (pc := 38) (kd := 9) (n := 13) h2 hb.2 dX7_init_38 (Or.inr (Or.inl ⟨rfl, rfl⟩)) ac_int (by decide) ⟨Nat.le_of_ble_eq_true rfl, Nat.le_of_ble_eq_true rfl⟩ dX7_init_40 fX7_24F rfl (hv_arr ⟨_, rfl⟩) (by simp) (fun j => by simp [zv7]) ?_
  intro r3 E3 I3 P3 h3
  refine jJ_aload_n (pc := 43) dX7_init_43 rfl ?_
  refine jJ_bipush (pc := 44) dX7_init_44 (by decide) ?_
  refine mk_row (pc := 46) (kd := 9) (n := 13) h3 hb.2 dX7_init_46 (Or.inr (Or.inl ⟨rfl, rfl⟩)) ac_int (by decide) ⟨Nat.le_of_ble_eq_true rfl, Nat.le_of_ble_eq_true rfl⟩ dX7_init_48 fX7_27F rfl (hv_arr ⟨_, rfl⟩) (by simp) (fun j => by simp [zv7]) ?_
  intro r4 E4 I4 P4 h4
  refine jJ_aload_n (pc := 51) dX7_init_51 rfl ?_
  refine jJ_bipush (pc := 52) dX7_init_52 (by decide) ?_
  refine mk_row (pc := 54) (kd := 9) (n := 13) h4 hb.2 dX7_init_54 (Or.inr (Or.inl ⟨rfl, rfl⟩)) ac_int (by decide) ⟨Nat.le_of_ble_eq_true rfl, Nat.le_of_ble_eq_true rfl⟩ dX7_init_56 fX7_30F rfl (hv_arr ⟨_, rfl⟩) (by simp) (fun j => by simp [zv7]) ?_
  intro r5 E5 I5 P5 h5
  refine jJ_aload_n (pc := 59) dX7_init_59 rfl ?_
  refine jJ_bipush (pc := 60) dX7_init_60 (by decide) ?_
  refine mk_row (pc := 62) (kd := 9) (n := 13) h5 hb.2 dX7_init_62 (Or.inr (Or.inl ⟨rfl, rfl⟩)) ac_int (by decide) ⟨Nat.le_of_ble_eq_true rfl, Nat.le_of_ble_eq_true rfl⟩ dX7_init_64 fX7_33F rfl (hv_arr ⟨_, rfl⟩) (by simp) (fun j => by simp [zv7]) ?_
  intro r6 E6 I6 P6 h6
  refine jJ_aload_n (pc := 67) dX7_init_67 rfl ?_
  refine jJ_sipush (pc := 68) dX7_init_68 (by decide) ?_
  refine mk_row (pc := 71) (kd := 9) (n := 2613) h6 hb.2 dX7_init_71 (Or.inr (Or.inl ⟨rfl, rfl⟩)) ac_int (by decide) ⟨Nat.le_of_ble_eq_true rfl, Nat.le_of_ble_eq_true rfl⟩ dX7_init_73 fX7_36F rfl (hv_arr ⟨_, rfl⟩) (by simp) (fun j => by simp [zv7]) ?_
  intro r7 E7 I7 P7 h7
  refine jJ_aload_n (pc := 76) dX7_init_76 rfl ?_
  refine jJ_sipush (pc := 77) dX7_init_77 (by decide) ?_
  refine mk_row (pc := 80) (kd := 9) (n := 2613) h7 hb.2 dX7_init_80 (Or.inr (Or.inl ⟨rfl, rfl⟩)) ac_int (by decide) ⟨Nat.le_of_ble_eq_true rfl, Nat.le_of_ble_eq_true rfl⟩ dX7_init_82 fX7_39F rfl (hv_arr ⟨_, rfl⟩) (by simp) (fun j => by simp [zv7]) ?_
  intro r8 E8 I8 P8 h8
  refine jJ_aload_n (pc := 85) dX7_init_85 rfl ?_
  refine jJ_sipush (pc := 86) dX7_init_86 (by decide) ?_
  refine mk_row (pc := 89) (kd := 9) (n := 2613) h8 hb.2 dX7_init_89 (Or.inr (Or.inl ⟨rfl, rfl⟩)) ac_int (by decide) ⟨Nat.le_of_ble_eq_true rfl, Nat.le_of_ble_eq_true rfl⟩ dX7_init_91 fX7_42F rfl (hv_arr ⟨_, rfl⟩) (by simp) (fun j => by simp [zv7]) ?_
  intro r9 E9 I9 P9 h9
  refine jJ_aload_n (pc := 94) dX7_init_94 rfl ?_
  refine jJ_sipush (pc := 95) dX7_init_95 (by decide) ?_
  refine mk_row (pc := 98) (kd := 9) (n := 2613) h9 hb.2 dX7_init_98 (Or.inr (Or.inl ⟨rfl, rfl⟩)) ac_int (by decide) ⟨Nat.le_of_ble_eq_true rfl, Nat.le_of_ble_eq_true rfl⟩ dX7_init_100 fX7_45F rfl (hv_arr ⟨_, rfl⟩) (by simp) (fun j => by simp [zv7]) ?_
  intro r10 E10 I10 P10 h10
  refine jJ_aload_n (pc := 103) dX7_init_103 rfl ?_
  refine jJ_sipush (pc := 104) dX7_init_104 (by decide) ?_
  refine mk_row (pc := 107) (kd := 9) (n := 2613) h10 hb.2 dX7_init_107 (Or.inr (Or.inl ⟨rfl, rfl⟩)) ac_int (by decide) ⟨Nat.le_of_ble_eq_true rfl, Nat.le_of_ble_eq_true rfl⟩ dX7_init_109 fX7_48F rfl (hv_arr ⟨_, rfl⟩) (by simp) (fun j => by simp [zv7]) ?_
  intro r11 E11 I11 P11 h11
  refine jJ_aload_n (pc := 112) dX7_init_112 rfl ?_
  refine jJ_iconst (pc := 113) dX7_init_113 (by decide) ?_
  refine jJ_newa (pc := 114) (k := 9) (n := 2) dX7_init_114 (Or.inr (Or.inl ⟨rfl, rfl⟩)) ac_int (by decide) ⟨Nat.le_of_ble_eq_true rfl, Nat.le_of_ble_eq_true rfl⟩ ?_
  intro r12 hr12
  have kb12 := h11.jk hb.2
  have hbr12 : b ≠ r12 := fun z => hr12 (by rw [← z]; exact kb12.1)
  have ar12 : jAr (eAdd E11 r12 9 2) 9 r12 2 := ⟨List.mem_append_right _ List.mem_cons_self, va_up_self _ _ _, va_up_self _ _ _⟩
  refine jJ_dup (pc := 116) dX7_init_116 rfl ?_
  refine jJ_iconst (pc := 117) dX7_init_117 (by decide) ?_
  refine jJ_iconst (pc := 118) dX7_init_118 (by decide) ?_
  refine jJ_iast (pc := 119) dX7_init_119 ar12 ⟨by omega, by omega⟩ ?_
  refine jJ_dup (pc := 120) dX7_init_120 rfl ?_
  refine jJ_iconst (pc := 121) dX7_init_121 (by decide) ?_
  refine jJ_iconst (pc := 122) dX7_init_122 (by decide) ?_
  refine jJ_iast (pc := 123) dX7_init_123 ar12 ⟨by omega, by omega⟩ ?_
  refine jJ_putrF (pc := 124) dX7_init_124 fX7_51F rfl (hv_arr ⟨_, rfl⟩ _) (show jK (eAdd E11 r12 9 2) 7 b from ⟨List.mem_append_left _ kb12.1, (va_up_ne _ _ hbr12).trans kb12.2⟩) ?_
  have h12 := h11.step (k := 17) (kd := 9) (n := 2) hr12 (by simp) (J := jput (jput (zI I11 r12) r12 0 5) r12 1 2) (fun a ha => by funext j; rw [jput_a _ ha, jput_a _ ha, zI_n ha]) (fun j => by
    by_cases j1 : j = 1
    · subst j1; rw [jput_s]; rfl
    · rw [jput_k _ j1]
      by_cases j0 : j = 0
      · subst j0; rw [jput_s]; rfl
      · rw [jput_k _ j0, zI_s]; simp [zv7, j0, j1])
  clear kb12 hbr12 ar12
  refine jJ_aload_n (pc := 127) dX7_init_127 rfl ?_
  refine jJ_sipush (pc := 128) dX7_init_128 (by decide) ?_
  refine mk_row (pc := 131) (kd := 9) (n := 128) h12 hb.2 dX7_init_131 (Or.inr (Or.inl ⟨rfl, rfl⟩)) ac_int (by decide) ⟨Nat.le_of_ble_eq_true rfl, Nat.le_of_ble_eq_true rfl⟩ dX7_init_133 fX7_54F rfl (hv_arr ⟨_, rfl⟩) (by simp) (fun j => by simp [zv7]) ?_
  intro r13 E13 I13 P13 h13
  refine jJ_aload_n (pc := 136) dX7_init_136 rfl ?_
  refine jJ_sipush (pc := 137) dX7_init_137 (by decide) ?_
  refine mk_row (pc := 140) (kd := 9) (n := 2000) h13 hb.2 dX7_init_140 (Or.inr (Or.inl ⟨rfl, rfl⟩)) ac_int (by decide) ⟨Nat.le_of_ble_eq_true rfl, Nat.le_of_ble_eq_true rfl⟩ dX7_init_142 fX7_57F rfl (hv_arr ⟨_, rfl⟩) (by simp) (fun j => by simp [zv7]) ?_
  intro r14 E14 I14 P14 h14
  have k15 := h14.jk hb.2
  refine jJ_aload_n (pc := 145) dX7_init_145 rfl ?_
  refine jJ_iconst (pc := 146) dX7_init_146 (by decide) ?_
  refine jJ_puti (pc := 147) dX7_init_147 fX7_60w rfl ⟨rfl, rfl⟩ k15 ?_
  have g15 := h14.put (k := 21) (v := -1)
  refine jJ_aload_n (pc := 150) dX7_init_150 rfl ?_
  refine jJ_sipush (pc := 151) dX7_init_151 (by decide) ?_
  refine mk_row (pc := 154) (kd := 9) (n := 2400) g15 hb.2 dX7_init_154 (Or.inr (Or.inl ⟨rfl, rfl⟩)) ac_int (by decide) ⟨Nat.le_of_ble_eq_true rfl, Nat.le_of_ble_eq_true rfl⟩ dX7_init_156 fX7_63F rfl (hv_arr ⟨_, rfl⟩) (by simp) (fun j => by simp [zv7]) ?_
  intro r15 E15 I15 P15 h15
  refine jJ_aload_n (pc := 159) dX7_init_159 rfl ?_
  refine jJ_sipush (pc := 160) dX7_init_160 (by decide) ?_
  refine mk_row (pc := 163) (kd := 9) (n := 2400) h15 hb.2 dX7_init_163 (Or.inr (Or.inl ⟨rfl, rfl⟩)) ac_int (by decide) ⟨Nat.le_of_ble_eq_true rfl, Nat.le_of_ble_eq_true rfl⟩ dX7_init_165 fX7_66F rfl (hv_arr ⟨_, rfl⟩) (by simp) (fun j => by simp [zv7]) ?_
  intro r16 E16 I16 P16 h16
  refine jJ_aload_n (pc := 168) dX7_init_168 rfl ?_
  refine jJ_sipush (pc := 169) dX7_init_169 (by decide) ?_
  refine mk_row (pc := 172) (kd := 9) (n := 9600) h16 hb.2 dX7_init_172 (Or.inr (Or.inl ⟨rfl, rfl⟩)) ac_int (by decide) ⟨Nat.le_of_ble_eq_true rfl, Nat.le_of_ble_eq_true rfl⟩ dX7_init_174 fX7_69F rfl (hv_arr ⟨_, rfl⟩) (by simp) (fun j => by simp [zv7]) ?_
  intro r17 E17 I17 P17 h17
  refine jJ_aload_n (pc := 177) dX7_init_177 rfl ?_
  refine jJ_bipush (pc := 178) dX7_init_178 (by decide) ?_
  refine mk_row (pc := 180) (kd := 9) (n := 40) h17 hb.2 dX7_init_180 (Or.inr (Or.inl ⟨rfl, rfl⟩)) ac_int (by decide) ⟨Nat.le_of_ble_eq_true rfl, Nat.le_of_ble_eq_true rfl⟩ dX7_init_182 fX7_72F rfl (hv_arr ⟨_, rfl⟩) (by simp) (fun j => by simp [zv7]) ?_
  intro r18 E18 I18 P18 h18
  refine jJ_aload_n (pc := 185) dX7_init_185 rfl ?_
  refine jJ_bipush (pc := 186) dX7_init_186 (by decide) ?_
  refine mk_row (pc := 188) (kd := 9) (n := 40) h18 hb.2 dX7_init_188 (Or.inr (Or.inl ⟨rfl, rfl⟩)) ac_int (by decide) ⟨Nat.le_of_ble_eq_true rfl, Nat.le_of_ble_eq_true rfl⟩ dX7_init_190 fX7_75F rfl (hv_arr ⟨_, rfl⟩) (by simp) (fun j => by simp [zv7]) ?_
  intro r19 E19 I19 P19 h19
  exact jJ_vretN (pc := 193) h19.1 dX7_init_193 rfl ⟨fun i => if i = 1 then r0 else if i = 5 then r1 else if i = 6 then r2 else if i = 7 then r3 else if i = 8 then r4 else if i = 9 then r5 else if i = 10 then r6 else if i = 11 then r7 else if i = 12 then r8 else if i = 13 then r9 else if i = 14 then r10 else if i = 15 then r11 else if i = 17 then r12 else if i = 18 then r13 else if i = 19 then r14 else if i = 28 then r15 else if i = 29 then r16 else if i = 30 then r17 else if i = 32 then r18 else r19, h19⟩
end JCt7
