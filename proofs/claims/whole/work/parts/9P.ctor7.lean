section JCt7
variable {E E0 : jE} {I I0 : jI} {P P0 : jP} {d b : Nat} {A : State → Prop} {rs : List (Nat × Nat × Nat × Nat)} {Q : jE → jI → jP → Prop}
/-- the prices at the start -/
def zv7 (k j : Nat) : Int := if k = 17 ∧ j = 0 then 5 else if k = 17 ∧ j = 1 then 2 else 0
theorem zv7_0 {k : Nat} (h : k ≠ 17) (j : Nat) : zv7 k j = 0 := by unfold zv7; rw [if_neg (fun z => h z.1), if_neg (fun z => h z.1)]
theorem lt_app {k0 k kd n r : Nat} (h : ∀ z ∈ rs, z.1 ≤ k0) (hk : k0 ≤ k) : ∀ z ∈ rs ++ [(k, kd, n, r)], z.1 ≤ k := fun z hz => by
  rcases List.mem_append.mp hz with g | g
  · exact Nat.le_trans (h z g) hk
  · rw [List.mem_singleton.mp g]; exact Nat.le_refl _
theorem lt_ne {k0 k : Nat} (h : ∀ z ∈ rs, z.1 ≤ k0) (hk : k0 < k) : ∀ z ∈ rs, z.1 ≠ k := fun z hz e => by have := h z hz; omega
theorem m7_A (h : RM zv7 E0 I0 P0 b rs E I P) (hb : eK E0 b = 7) (hlt : ∀ z ∈ rs, z.1 ≤ 0)
    (kk : ∀ r0 r1 r2 r3 r4 r5 r6 E' I' P', RM zv7 E0 (jput I0 b 4 (-1)) P0 b (((((((rs ++ [(1, 9, 800, r0)]) ++ [(5, 10, 12, r1)]) ++ [(6, 9, 10400, r2)]) ++ [(7, 9, 13, r3)]) ++ [(8, 9, 13, r4)]) ++ [(9, 9, 13, r5)]) ++ [(10, 9, 13, r6)]) E' I' P' → (∀ z ∈ (((((((rs ++ [(1, 9, 800, r0)]) ++ [(5, 10, 12, r1)]) ++ [(6, 9, 10400, r2)]) ++ [(7, 9, 13, r3)]) ++ [(8, 9, 13, r4)]) ++ [(9, 9, 13, r5)]) ++ [(10, 9, 13, r6)]), z.1 ≤ 10) → jJ E' yX7_init.cls cX7_init 1 none (jRn d 20 40939) (jZn E0 Q A 20 40939) 7 11264 67 [some (jp b)] [] I' P') : jJ E yX7_init.cls cX7_init 1 none (jRn d 20 40939) (jZn E0 Q A 20 40939) 0 0 4 [some (jp b)] [] I P := by
  refine jJ_aload_n (pc := 4) dX7_init_4 rfl ?_
  refine jJ_sipush (pc := 5) dX7_init_5 (by decide) ?_
  refine mk_row (pc := 8) (kd := 9) (n := 800) h hb dX7_init_8 (Or.inr (Or.inl ⟨rfl, rfl⟩)) ac_int (by decide) ⟨Nat.le_of_ble_eq_true rfl, Nat.le_of_ble_eq_true rfl⟩ dX7_init_10 fX7_7F rfl (hv_arr ⟨_, rfl⟩) (lt_ne hlt (by decide)) (zv7_0 (by decide)) ?_
  intro r0 E0 I0 P0 h0
  have lt0 := lt_app (kd := 9) (n := 800) (r := r0) (k := 1) hlt (by decide)
  have k1 := h0.jk hb
  refine jJ_aload_n (pc := 13) dX7_init_13 rfl ?_
  refine jJ_iconst (pc := 14) dX7_init_14 (by decide) ?_
  refine jJ_puti (pc := 15) dX7_init_15 fX7_13w rfl ⟨rfl, rfl⟩ k1 ?_
  have g1 := h0.put (k := 4) (v := -1)
  refine jJ_aload_n (pc := 18) dX7_init_18 rfl ?_
  refine jJ_bipush (pc := 19) dX7_init_19 (by decide) ?_
  refine mk_row (pc := 21) (kd := 10) (n := 12) g1 hb dX7_init_21 (Or.inr (Or.inr (Or.inl ⟨rfl, rfl⟩))) ac_boolean (by decide) ⟨Nat.le_of_ble_eq_true rfl, Nat.le_of_ble_eq_true rfl⟩ dX7_init_23 fX7_17F rfl (hv_arr ⟨_, rfl⟩) (lt_ne lt0 (by decide)) (zv7_0 (by decide)) ?_
  intro r1 E1 I1 P1 h1
  have lt1 := lt_app (kd := 10) (n := 12) (r := r1) (k := 5) lt0 (by decide)
  refine jJ_aload_n (pc := 26) dX7_init_26 rfl ?_
  refine jJ_sipush (pc := 27) dX7_init_27 (by decide) ?_
  refine mk_row (pc := 30) (kd := 9) (n := 10400) h1 hb dX7_init_30 (Or.inr (Or.inl ⟨rfl, rfl⟩)) ac_int (by decide) ⟨Nat.le_of_ble_eq_true rfl, Nat.le_of_ble_eq_true rfl⟩ dX7_init_32 fX7_21F rfl (hv_arr ⟨_, rfl⟩) (lt_ne lt1 (by decide)) (zv7_0 (by decide)) ?_
  intro r2 E2 I2 P2 h2
  have lt2 := lt_app (kd := 9) (n := 10400) (r := r2) (k := 6) lt1 (by decide)
  refine jJ_aload_n (pc := 35) dX7_init_35 rfl ?_
  refine jJ_bipush (pc := 36) dX7_init_36 (by decide) ?_
  refine mk_row (pc := 38) (kd := 9) (n := 13) h2 hb dX7_init_38 (Or.inr (Or.inl ⟨rfl, rfl⟩)) ac_int (by decide) ⟨Nat.le_of_ble_eq_true rfl, Nat.le_of_ble_eq_true rfl⟩ dX7_init_40 fX7_24F rfl (hv_arr ⟨_, rfl⟩) (lt_ne lt2 (by decide)) (zv7_0 (by decide)) ?_
  intro r3 E3 I3 P3 h3
  have lt3 := lt_app (kd := 9) (n := 13) (r := r3) (k := 7) lt2 (by decide)
  refine jJ_aload_n (pc := 43) dX7_init_43 rfl ?_
  refine jJ_bipush (pc := 44) dX7_init_44 (by decide) ?_
  refine mk_row (pc := 46) (kd := 9) (n := 13) h3 hb dX7_init_46 (Or.inr (Or.inl ⟨rfl, rfl⟩)) ac_int (by decide) ⟨Nat.le_of_ble_eq_true rfl, Nat.le_of_ble_eq_true rfl⟩ dX7_init_48 fX7_27F rfl (hv_arr ⟨_, rfl⟩) (lt_ne lt3 (by decide)) (zv7_0 (by decide)) ?_
  intro r4 E4 I4 P4 h4
  have lt4 := lt_app (kd := 9) (n := 13) (r := r4) (k := 8) lt3 (by decide)
  refine jJ_aload_n (pc := 51) dX7_init_51 rfl ?_
  refine jJ_bipush (pc := 52) dX7_init_52 (by decide) ?_
  refine mk_row (pc := 54) (kd := 9) (n := 13) h4 hb dX7_init_54 (Or.inr (Or.inl ⟨rfl, rfl⟩)) ac_int (by decide) ⟨Nat.le_of_ble_eq_true rfl, Nat.le_of_ble_eq_true rfl⟩ dX7_init_56 fX7_30F rfl (hv_arr ⟨_, rfl⟩) (lt_ne lt4 (by decide)) (zv7_0 (by decide)) ?_
  intro r5 E5 I5 P5 h5
  have lt5 := lt_app (kd := 9) (n := 13) (r := r5) (k := 9) lt4 (by decide)
  refine jJ_aload_n (pc := 59) dX7_init_59 rfl ?_
  refine jJ_bipush (pc := 60) dX7_init_60 (by decide) ?_
  refine mk_row (pc := 62) (kd := 9) (n := 13) h5 hb dX7_init_62 (Or.inr (Or.inl ⟨rfl, rfl⟩)) ac_int (by decide) ⟨Nat.le_of_ble_eq_true rfl, Nat.le_of_ble_eq_true rfl⟩ dX7_init_64 fX7_33F rfl (hv_arr ⟨_, rfl⟩) (lt_ne lt5 (by decide)) (zv7_0 (by decide)) ?_
  intro r6 E6 I6 P6 h6
  have lt6 := lt_app (kd := 9) (n := 13) (r := r6) (k := 10) lt5 (by decide)
  exact kk _ _ _ _ _ _ _ _ _ _ h6 lt6
theorem m7_B (h : RM zv7 E0 I0 P0 b rs E I P) (hb : eK E0 b = 7) (hlt : ∀ z ∈ rs, z.1 ≤ 10)
    (kk : ∀ r0 r1 r2 r3 r4 E' I' P', RM zv7 E0 I0 P0 b (((((rs ++ [(11, 9, 2613, r0)]) ++ [(12, 9, 2613, r1)]) ++ [(13, 9, 2613, r2)]) ++ [(14, 9, 2613, r3)]) ++ [(15, 9, 2613, r4)]) E' I' P' → (∀ z ∈ (((((rs ++ [(11, 9, 2613, r0)]) ++ [(12, 9, 2613, r1)]) ++ [(13, 9, 2613, r2)]) ++ [(14, 9, 2613, r3)]) ++ [(15, 9, 2613, r4)]), z.1 ≤ 15) → jJ E' yX7_init.cls cX7_init 1 none (jRn d 20 40939) (jZn E0 Q A 20 40939) 12 24329 112 [some (jp b)] [] I' P') : jJ E yX7_init.cls cX7_init 1 none (jRn d 20 40939) (jZn E0 Q A 20 40939) 7 11264 67 [some (jp b)] [] I P := by
  refine jJ_aload_n (pc := 67) dX7_init_67 rfl ?_
  refine jJ_sipush (pc := 68) dX7_init_68 (by decide) ?_
  refine mk_row (pc := 71) (kd := 9) (n := 2613) h hb dX7_init_71 (Or.inr (Or.inl ⟨rfl, rfl⟩)) ac_int (by decide) ⟨Nat.le_of_ble_eq_true rfl, Nat.le_of_ble_eq_true rfl⟩ dX7_init_73 fX7_36F rfl (hv_arr ⟨_, rfl⟩) (lt_ne hlt (by decide)) (zv7_0 (by decide)) ?_
  intro r0 E0 I0 P0 h0
  have lt0 := lt_app (kd := 9) (n := 2613) (r := r0) (k := 11) hlt (by decide)
  refine jJ_aload_n (pc := 76) dX7_init_76 rfl ?_
  refine jJ_sipush (pc := 77) dX7_init_77 (by decide) ?_
  refine mk_row (pc := 80) (kd := 9) (n := 2613) h0 hb dX7_init_80 (Or.inr (Or.inl ⟨rfl, rfl⟩)) ac_int (by decide) ⟨Nat.le_of_ble_eq_true rfl, Nat.le_of_ble_eq_true rfl⟩ dX7_init_82 fX7_39F rfl (hv_arr ⟨_, rfl⟩) (lt_ne lt0 (by decide)) (zv7_0 (by decide)) ?_
  intro r1 E1 I1 P1 h1
  have lt1 := lt_app (kd := 9) (n := 2613) (r := r1) (k := 12) lt0 (by decide)
  refine jJ_aload_n (pc := 85) dX7_init_85 rfl ?_
  refine jJ_sipush (pc := 86) dX7_init_86 (by decide) ?_
  refine mk_row (pc := 89) (kd := 9) (n := 2613) h1 hb dX7_init_89 (Or.inr (Or.inl ⟨rfl, rfl⟩)) ac_int (by decide) ⟨Nat.le_of_ble_eq_true rfl, Nat.le_of_ble_eq_true rfl⟩ dX7_init_91 fX7_42F rfl (hv_arr ⟨_, rfl⟩) (lt_ne lt1 (by decide)) (zv7_0 (by decide)) ?_
  intro r2 E2 I2 P2 h2
  have lt2 := lt_app (kd := 9) (n := 2613) (r := r2) (k := 13) lt1 (by decide)
  refine jJ_aload_n (pc := 94) dX7_init_94 rfl ?_
  refine jJ_sipush (pc := 95) dX7_init_95 (by decide) ?_
  refine mk_row (pc := 98) (kd := 9) (n := 2613) h2 hb dX7_init_98 (Or.inr (Or.inl ⟨rfl, rfl⟩)) ac_int (by decide) ⟨Nat.le_of_ble_eq_true rfl, Nat.le_of_ble_eq_true rfl⟩ dX7_init_100 fX7_45F rfl (hv_arr ⟨_, rfl⟩) (lt_ne lt2 (by decide)) (zv7_0 (by decide)) ?_
  intro r3 E3 I3 P3 h3
  have lt3 := lt_app (kd := 9) (n := 2613) (r := r3) (k := 14) lt2 (by decide)
  refine jJ_aload_n (pc := 103) dX7_init_103 rfl ?_
  refine jJ_sipush (pc := 104) dX7_init_104 (by decide) ?_
  refine mk_row (pc := 107) (kd := 9) (n := 2613) h3 hb dX7_init_107 (Or.inr (Or.inl ⟨rfl, rfl⟩)) ac_int (by decide) ⟨Nat.le_of_ble_eq_true rfl, Nat.le_of_ble_eq_true rfl⟩ dX7_init_109 fX7_48F rfl (hv_arr ⟨_, rfl⟩) (lt_ne lt3 (by decide)) (zv7_0 (by decide)) ?_
  intro r4 E4 I4 P4 h4
  have lt4 := lt_app (kd := 9) (n := 2613) (r := r4) (k := 15) lt3 (by decide)
  exact kk _ _ _ _ _ _ _ _ h4 lt4
theorem m7_C (h : RM zv7 E0 I0 P0 b rs E I P) (hb : eK E0 b = 7) (hlt : ∀ z ∈ rs, z.1 ≤ 15)
    (kk : ∀ r0 r1 r2 r3 r4 r5 r6 r7 E' I' P', RM zv7 E0 (jput I0 b 21 (-1)) P0 b ((((((((rs ++ [(17, 9, 2, r0)]) ++ [(18, 9, 128, r1)]) ++ [(19, 9, 2000, r2)]) ++ [(28, 9, 2400, r3)]) ++ [(29, 9, 2400, r4)]) ++ [(30, 9, 9600, r5)]) ++ [(32, 9, 40, r6)]) ++ [(33, 9, 40, r7)]) E' I' P' → Q E' I' P') : jJ E yX7_init.cls cX7_init 1 none (jRn d 20 40939) (jZn E0 Q A 20 40939) 12 24329 112 [some (jp b)] [] I P := by
  refine jJ_aload_n (pc := 112) dX7_init_112 rfl ?_
  refine jJ_iconst (pc := 113) dX7_init_113 (by decide) ?_
  refine jJ_newa (pc := 114) (k := 9) (n := 2) dX7_init_114 (Or.inr (Or.inl ⟨rfl, rfl⟩)) ac_int (by decide) ⟨Nat.le_of_ble_eq_true rfl, Nat.le_of_ble_eq_true rfl⟩ ?_
  intro r0 hr0
  have kb0 := h.jk hb
  have hbr0 : b ≠ r0 := fun z => hr0 (by rw [← z]; exact kb0.1)
  have ar0 : jAr (eAdd E r0 9 2) 9 r0 2 := ⟨List.mem_append_right _ List.mem_cons_self, va_up_self _ _ _, va_up_self _ _ _⟩
  refine jJ_dup (pc := 116) dX7_init_116 rfl ?_
  refine jJ_iconst (pc := 117) dX7_init_117 (by decide) ?_
  refine jJ_iconst (pc := 118) dX7_init_118 (by decide) ?_
  refine jJ_iast (pc := 119) dX7_init_119 ar0 ⟨by omega, by omega⟩ ?_
  refine jJ_dup (pc := 120) dX7_init_120 rfl ?_
  refine jJ_iconst (pc := 121) dX7_init_121 (by decide) ?_
  refine jJ_iconst (pc := 122) dX7_init_122 (by decide) ?_
  refine jJ_iast (pc := 123) dX7_init_123 ar0 ⟨by omega, by omega⟩ ?_
  refine jJ_putrF (pc := 124) dX7_init_124 fX7_51F rfl (hv_arr ⟨_, rfl⟩ _) (show jK (eAdd E r0 9 2) 7 b from ⟨List.mem_append_left _ kb0.1, (va_up_ne _ _ hbr0).trans kb0.2⟩) ?_
  have h0 := h.step (k := 17) (kd := 9) (n := 2) hr0 (lt_ne hlt (by decide)) (J := jput (jput (zI I r0) r0 0 5) r0 1 2) (fun a ha => by funext j; rw [jput_a _ ha, jput_a _ ha, zI_n ha]) (fun j => by
    by_cases j1 : j = 1
    · subst j1; rw [jput_s]; rfl
    · rw [jput_k _ j1]
      by_cases j0 : j = 0
      · subst j0; rw [jput_s]; rfl
      · rw [jput_k _ j0, zI_s]; simp [zv7, j0, j1])
  have lt0 := lt_app (kd := 9) (n := 2) (r := r0) (k := 17) hlt (by decide)
  refine jJ_aload_n (pc := 127) dX7_init_127 rfl ?_
  refine jJ_sipush (pc := 128) dX7_init_128 (by decide) ?_
  refine mk_row (pc := 131) (kd := 9) (n := 128) h0 hb dX7_init_131 (Or.inr (Or.inl ⟨rfl, rfl⟩)) ac_int (by decide) ⟨Nat.le_of_ble_eq_true rfl, Nat.le_of_ble_eq_true rfl⟩ dX7_init_133 fX7_54F rfl (hv_arr ⟨_, rfl⟩) (lt_ne lt0 (by decide)) (zv7_0 (by decide)) ?_
  intro r1 E1 I1 P1 h1
  have lt1 := lt_app (kd := 9) (n := 128) (r := r1) (k := 18) lt0 (by decide)
  refine jJ_aload_n (pc := 136) dX7_init_136 rfl ?_
  refine jJ_sipush (pc := 137) dX7_init_137 (by decide) ?_
  refine mk_row (pc := 140) (kd := 9) (n := 2000) h1 hb dX7_init_140 (Or.inr (Or.inl ⟨rfl, rfl⟩)) ac_int (by decide) ⟨Nat.le_of_ble_eq_true rfl, Nat.le_of_ble_eq_true rfl⟩ dX7_init_142 fX7_57F rfl (hv_arr ⟨_, rfl⟩) (lt_ne lt1 (by decide)) (zv7_0 (by decide)) ?_
  intro r2 E2 I2 P2 h2
  have lt2 := lt_app (kd := 9) (n := 2000) (r := r2) (k := 19) lt1 (by decide)
  have k3 := h2.jk hb
  refine jJ_aload_n (pc := 145) dX7_init_145 rfl ?_
  refine jJ_iconst (pc := 146) dX7_init_146 (by decide) ?_
  refine jJ_puti (pc := 147) dX7_init_147 fX7_60w rfl ⟨rfl, rfl⟩ k3 ?_
  have g3 := h2.put (k := 21) (v := -1)
  refine jJ_aload_n (pc := 150) dX7_init_150 rfl ?_
  refine jJ_sipush (pc := 151) dX7_init_151 (by decide) ?_
  refine mk_row (pc := 154) (kd := 9) (n := 2400) g3 hb dX7_init_154 (Or.inr (Or.inl ⟨rfl, rfl⟩)) ac_int (by decide) ⟨Nat.le_of_ble_eq_true rfl, Nat.le_of_ble_eq_true rfl⟩ dX7_init_156 fX7_63F rfl (hv_arr ⟨_, rfl⟩) (lt_ne lt2 (by decide)) (zv7_0 (by decide)) ?_
  intro r3 E3 I3 P3 h3
  have lt3 := lt_app (kd := 9) (n := 2400) (r := r3) (k := 28) lt2 (by decide)
  refine jJ_aload_n (pc := 159) dX7_init_159 rfl ?_
  refine jJ_sipush (pc := 160) dX7_init_160 (by decide) ?_
  refine mk_row (pc := 163) (kd := 9) (n := 2400) h3 hb dX7_init_163 (Or.inr (Or.inl ⟨rfl, rfl⟩)) ac_int (by decide) ⟨Nat.le_of_ble_eq_true rfl, Nat.le_of_ble_eq_true rfl⟩ dX7_init_165 fX7_66F rfl (hv_arr ⟨_, rfl⟩) (lt_ne lt3 (by decide)) (zv7_0 (by decide)) ?_
  intro r4 E4 I4 P4 h4
  have lt4 := lt_app (kd := 9) (n := 2400) (r := r4) (k := 29) lt3 (by decide)
  refine jJ_aload_n (pc := 168) dX7_init_168 rfl ?_
  refine jJ_sipush (pc := 169) dX7_init_169 (by decide) ?_
  refine mk_row (pc := 172) (kd := 9) (n := 9600) h4 hb dX7_init_172 (Or.inr (Or.inl ⟨rfl, rfl⟩)) ac_int (by decide) ⟨Nat.le_of_ble_eq_true rfl, Nat.le_of_ble_eq_true rfl⟩ dX7_init_174 fX7_69F rfl (hv_arr ⟨_, rfl⟩) (lt_ne lt4 (by decide)) (zv7_0 (by decide)) ?_
  intro r5 E5 I5 P5 h5
  have lt5 := lt_app (kd := 9) (n := 9600) (r := r5) (k := 30) lt4 (by decide)
  refine jJ_aload_n (pc := 177) dX7_init_177 rfl ?_
  refine jJ_bipush (pc := 178) dX7_init_178 (by decide) ?_
  refine mk_row (pc := 180) (kd := 9) (n := 40) h5 hb dX7_init_180 (Or.inr (Or.inl ⟨rfl, rfl⟩)) ac_int (by decide) ⟨Nat.le_of_ble_eq_true rfl, Nat.le_of_ble_eq_true rfl⟩ dX7_init_182 fX7_72F rfl (hv_arr ⟨_, rfl⟩) (lt_ne lt5 (by decide)) (zv7_0 (by decide)) ?_
  intro r6 E6 I6 P6 h6
  have lt6 := lt_app (kd := 9) (n := 40) (r := r6) (k := 32) lt5 (by decide)
  refine jJ_aload_n (pc := 185) dX7_init_185 rfl ?_
  refine jJ_bipush (pc := 186) dX7_init_186 (by decide) ?_
  refine mk_row (pc := 188) (kd := 9) (n := 40) h6 hb dX7_init_188 (Or.inr (Or.inl ⟨rfl, rfl⟩)) ac_int (by decide) ⟨Nat.le_of_ble_eq_true rfl, Nat.le_of_ble_eq_true rfl⟩ dX7_init_190 fX7_75F rfl (hv_arr ⟨_, rfl⟩) (lt_ne lt6 (by decide)) (zv7_0 (by decide)) ?_
  intro r7 E7 I7 P7 h7
  have lt7 := lt_app (kd := 9) (n := 40) (r := r7) (k := 33) lt6 (by decide)
  exact jJ_vretN (pc := 193) h7.1 dX7_init_193 rfl (kk _ _ _ _ _ _ _ _ _ _ _ h7)
theorem n_Model (hb : jK E 7 b) (hd : 1 ≤ d) : jN E A yX7_init cX7_init 1 d 20 40939 [jp b] I P (fun E' I' P' => ∃ (a : Nat → Nat) (rs : List (Nat × Nat × Nat × Nat)), RM zv7 E (jput (jput I b 4 (-1)) b 21 (-1)) P b rs E' I' P' ∧ ∀ z ∈ rfA, (z.1, z.2.1, z.2.2, a z.1) ∈ rs) := by
  refine jN_intro (by decide +kernel) rfl (by simp [jc, va_rf, Value.category]) (Nat.le_of_ble_eq_true rfl) ?_
  refine jJ_aload_n (pc := 0) dX7_init_0 rfl ?_
  refine jJ_objInit (pc := 1) dX7_init_1 oiX7 oiI oiC (Nat.le_of_ble_eq_true rfl) ⟨hd, by show 20 ≤ 60 * d; omega⟩ ?_
  refine m7_A (RM.nil (zv := zv7) hb.1) hb.2 (by simp) ?_
  intro r0 r1 r2 r3 r4 r5 r6 E1 I1 P1 h1 lt1
  refine m7_B h1 hb.2 lt1 ?_
  intro r7 r8 r9 r10 r11 E2 I2 P2 h2 lt2
  refine m7_C h2 hb.2 lt2 ?_
  intro r12 r13 r14 r15 r16 r17 r18 r19 E3 I3 P3 h3
  refine ⟨fun i => if i = 1 then r0 else if i = 5 then r1 else if i = 6 then r2 else if i = 7 then r3 else if i = 8 then r4 else if i = 9 then r5 else if i = 10 then r6 else if i = 11 then r7 else if i = 12 then r8 else if i = 13 then r9 else if i = 14 then r10 else if i = 15 then r11 else if i = 17 then r12 else if i = 18 then r13 else if i = 19 then r14 else if i = 28 then r15 else if i = 29 then r16 else if i = 30 then r17 else if i = 32 then r18 else r19, _, h3, ?_⟩
  simp [rfA]
end JCt7
