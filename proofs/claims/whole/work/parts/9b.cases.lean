section JCa
variable {E : jE} {I : jI} {P : jP} {h m o b L z cs ss : Nat} {c t hb a : Nat → Nat} {u : Nat → Nat → Nat} {C : Nat → Prop} {σ σ' : jSt} {xs : Nat → Int32} {i : Int} {l5 l6 : Option jV}
theorem l_feed {ans : Int} (hz : eZ E = z) (hG : GS E C h m o c t u hb a I P σ) (hi : 0 ≤ i ∧ i + 5 < L) (hL : L ≤ 3072) (hcs : cs + 2 ≤ 601024 ∧ ss + 12 ≤ 7293034) (hk : jC E yX6_feed cX6_feed 6 (some FieldType.int) 100 [jp h, ji (xv xs (i + 1)), ji (xv xs (i + 2)), ji (xv xs (i + 3)), ji (xv xs (i + 4)), ji (xv xs (i + 5))] I P (kQ E C h c t u hb I P True ans σ')) (hm : ∀ I1 P1, RfL E P1 m a → RV I1 m a σ → jC E yX7_feed cX7_feed 6 (some FieldType.int) 100 [jp m, ji (xv xs (i + 1)), ji (xv xs (i + 2)), ji (xv xs (i + 3)), ji (xv xs (i + 4)), ji (xv xs (i + 5))] I1 P1 (rM I1 P1 m a True ans 1 (fun J => RV J m a σ') (fun J => RV J m a σ))) (hW : WV σ')
    (kk : ∀ I' P' σ'' v5 v6, GS E C h m o c t u hb a I' P' σ'' → jJ E RL cL_law 7 (some .boolean) room_1 (jLZ b L xs z) (cs + 2) (ss + 12) 1160 [some (jp b), some (jp h), some (jp m), some (jp o), some (ji i), v5, v6] [] I' P') : jJ E RL cL_law 7 (some .boolean) room_1 (jLZ b L xs z) cs ss 124 [some (jp b), some (jp h), some (jp m), some (jp o), some (ji i), l5, l6] [] I P := by
  refine jJ_aload_n (pc := 124) dL_law_124 rfl ?_
  refine jJ_arg (pc := 125) (j := 1) hz dL_law_125 dL_law_126 dL_law_128 dL_law_129 dL_law_130 rfl rfl hi hL (by decide) ?_
  refine jJ_arg (pc := 131) (j := 2) hz dL_law_131 dL_law_132 dL_law_134 dL_law_135 dL_law_136 rfl rfl hi hL (by decide) ?_
  refine jJ_arg (pc := 137) (j := 3) hz dL_law_137 dL_law_138 dL_law_140 dL_law_141 dL_law_142 rfl rfl hi hL (by decide) ?_
  refine jJ_arg (pc := 143) (j := 4) hz dL_law_143 dL_law_144 dL_law_146 dL_law_147 dL_law_148 rfl rfl hi hL (by decide) ?_
  refine jJ_arg (pc := 149) (j := 5) hz dL_law_149 dL_law_150 dL_law_152 dL_law_153 dL_law_154 rfl rfl hi hL (by decide) ?_
  refine jJ_callV (pc := 155) (as := [_, _, _, _, _]) dL_law_155 mL_64 (jRcv_of hG.1.kh rfl rfl) (Nat.le_of_ble_eq_true rfl) ⟨by decide, by decide, by show cs ≤ 601024; omega, by show ss ≤ 7293034; omega⟩ hk ?_
  rintro r I1 P1 ⟨-, rfl, hK1, hF0⟩
  have hF : FR (fun b => C b ∨ b = o) I P I1 P1 := fun b' hb' => hF0 b' (fun z => hb' (Or.inl z))
  obtain ⟨hR1, hV1⟩ := hG.mid hF
  refine jJ_aload_n (pc := 158) dL_law_158 rfl ?_
  refine jJ_arg (pc := 159) (j := 1) hz dL_law_159 dL_law_160 dL_law_162 dL_law_163 dL_law_164 rfl rfl hi hL (by decide) ?_
  refine jJ_arg (pc := 165) (j := 2) hz dL_law_165 dL_law_166 dL_law_168 dL_law_169 dL_law_170 rfl rfl hi hL (by decide) ?_
  refine jJ_arg (pc := 171) (j := 3) hz dL_law_171 dL_law_172 dL_law_174 dL_law_175 dL_law_176 rfl rfl hi hL (by decide) ?_
  refine jJ_arg (pc := 177) (j := 4) hz dL_law_177 dL_law_178 dL_law_180 dL_law_181 dL_law_182 rfl rfl hi hL (by decide) ?_
  refine jJ_arg (pc := 183) (j := 5) hz dL_law_183 dL_law_184 dL_law_186 dL_law_187 dL_law_188 rfl rfl hi hL (by decide) ?_
  refine jJ_callV (pc := 189) (as := [_, _, _, _, _]) dL_law_189 mL_68 (jRcv_of hR1.1 rfl rfl) (Nat.le_of_ble_eq_true rfl) ⟨by decide, by decide, by show cs ≤ 601024; omega, by show ss ≤ 7293034; omega⟩ (hm I1 P1 hR1 hV1) ?_
  rintro r2 I2 P2 ⟨rfl, hRF, ⟨-, rfl, e4, hV2⟩ | ⟨hn, -⟩⟩
  · obtain ⟨hG2, -⟩ := hG.fin hF hK1 hRF hV2 hW
    refine jJ_icmp_eq (pc := 192) (tgt := 1160) dL_law_192 (by decide) (fun _ => ?_) (fun zz => absurd rfl zz)
    exact jJ_widen (by omega) (by omega) (kk I2 _ σ' l5 l6 hG2)
  · exact absurd trivial hn
theorem l_text {cond : Prop} {ans ec : Int} (hz : eZ E = z) (hG : GS E C h m o c t u hb a I P σ) (hi : 0 ≤ i ∧ i + 5 < L) (hL : L ≤ 3072) (hcs : cs + 2 ≤ 601024 ∧ ss + 12 ≤ 7293034) (hec : ec ≠ 0) (hk : jCx E yX6_text cX6_text 4 (some FieldType.int) 100 1 [jp h, ji (xv xs (i + 1)), ji (xv xs (i + 2)), ji (xv xs (i + 3))] I P (kQ E C h c t u hb I P cond ans σ') (kX I P cond erI ec)) (hm : ∀ I1 P1, RfL E P1 m a → RV I1 m a σ → jC E yX7_text cX7_text 5 (some FieldType.int) 100 [jp m, ji (xv xs (i + 1)), ji (xv xs (i + 2)), ji (xv xs (i + 3))] I1 P1 (rM I1 P1 m a cond ans ec (fun J => RV J m a σ') (fun J => RV J m a σ))) (hW : cond → WV σ')
    (kk : ∀ I' P' σ'' v5 v6, GS E C h m o c t u hb a I' P' σ'' → jJ E RL cL_law 7 (some .boolean) room_1 (jLZ b L xs z) (cs + 2) (ss + 12) 1160 [some (jp b), some (jp h), some (jp m), some (jp o), some (ji i), v5, v6] [] I' P') : jJ E RL cL_law 7 (some .boolean) room_1 (jLZ b L xs z) cs ss 197 [some (jp b), some (jp h), some (jp m), some (jp o), some (ji i), l5, l6] [] I P := by
  refine jJ_aload_n (pc := 197) dL_law_197 rfl ?_
  refine jJ_arg (pc := 198) (j := 1) hz dL_law_198 dL_law_199 dL_law_201 dL_law_202 dL_law_203 rfl rfl hi hL (by decide) ?_
  refine jJ_arg (pc := 204) (j := 2) hz dL_law_204 dL_law_205 dL_law_207 dL_law_208 dL_law_209 rfl rfl hi hL (by decide) ?_
  refine jJ_arg (pc := 210) (j := 3) hz dL_law_210 dL_law_211 dL_law_213 dL_law_214 dL_law_215 rfl rfl hi hL (by decide) ?_
  refine jJ_aload_n (pc := 216) dL_law_216 rfl ?_
  refine jJ_callSw (pc := 217) (as := [_, _, _, _, _]) (d := 101) (mk := 1) (A := jNc) jLZ_eq jLZ_Nc jNc_m dL_law_217 wL_69 (Nat.le_of_ble_eq_true rfl) ⟨by decide, by decide, by show cs + 1 ≤ 601024; omega, by show ss + 6 * 1 ≤ 7293034; omega⟩ (w_text hG.1 hG.2.2.2.2.2.1 hG.2.2.2.2.2.2.1 hk) ?_
  rintro r I1 P1 ⟨hF, hq⟩
  obtain ⟨hR1, hV1⟩ := hG.mid hF
  obtain ⟨k, rfl⟩ : ∃ k, r = some (ji k) := by rcases hq with ⟨_, rfl, _⟩ | ⟨_, rfl, _⟩ <;> exact ⟨_, rfl⟩
  refine jJ_istore (pc := 220) (ls' := [_, _, _, _, _, _, _]) dL_law_220 (Nat.le_of_ble_eq_true rfl) rfl ?_
  refine jJ_aload_n (pc := 222) dL_law_222 rfl ?_
  refine jJ_arg (pc := 223) (j := 1) hz dL_law_223 dL_law_224 dL_law_226 dL_law_227 dL_law_228 rfl rfl hi hL (by decide) ?_
  refine jJ_arg (pc := 229) (j := 2) hz dL_law_229 dL_law_230 dL_law_232 dL_law_233 dL_law_234 rfl rfl hi hL (by decide) ?_
  refine jJ_arg (pc := 235) (j := 3) hz dL_law_235 dL_law_236 dL_law_238 dL_law_239 dL_law_240 rfl rfl hi hL (by decide) ?_
  refine jJ_callV (pc := 241) (as := [_, _, _]) dL_law_241 mL_74 (jRcv_of hR1.1 rfl rfl) (Nat.le_of_ble_eq_true rfl) ⟨by decide, by decide, by show cs + 1 ≤ 601024; omega, by show ss + 6 * 1 ≤ 7293034; omega⟩ (hm I1 P1 hR1 hV1) ?_
  rintro r2 I2 P2 ⟨rfl, hRF, hr⟩
  obtain ⟨w, rfl⟩ : ∃ w, r2 = some (ji w) := hr.elim (fun zz => ⟨_, zz.2.1⟩) (fun zz => zz.2.1)
  refine jJ_istore (pc := 244) (ls' := [_, _, _, _, _, _, _]) dL_law_244 (Nat.le_of_ble_eq_true rfl) rfl ?_
  refine jJ_aload_n (pc := 246) dL_law_246 rfl ?_
  refine jJ_callV (pc := 247) (as := []) dL_law_247 mL_75 (jRcv_of hR1.1 rfl rfl) (Nat.le_of_ble_eq_true rfl) ⟨by decide, by decide, by show cs + 1 ≤ 601024; omega, by show ss + 6 * 1 ≤ 7293034; omega⟩ (r_thrown (d := 1) hR1) ?_
  rintro r3 I3 P3 ⟨rfl, rfl, rfl⟩
  refine jJ_iload (pc := 250) dL_law_250 rfl ?_
  rcases hq with ⟨hc, e1, e2, hK1⟩ | ⟨hc, e1, hK1⟩ <;> rcases hr with ⟨hc', e3, e4, hV2⟩ | ⟨hc', -, e4, hV2⟩
  · obtain ⟨hG2, eo⟩ := hG.fin hF hK1 hRF hV2 (hW hc)
    cases e1
    cases e3
    rw [e4]
    refine jJ_icmp_eq (pc := 252) (tgt := 257) dL_law_252 (by decide) (fun _ => ?_) (fun zz => absurd rfl zz)
    refine jJ_iload (pc := 257) dL_law_257 rfl ?_
    refine jJ_if_ne (pc := 259) (tgt := 274) dL_law_259 (by decide) (fun zz => absurd rfl zz) (fun _ => ?_)
    refine jJ_aload_n (pc := 262) dL_law_262 rfl ?_
    refine jJ_iconst (pc := 263) dL_law_263 (by decide) ?_
    refine jJ_lald (pc := 264) dL_law_264 hG.2.2.2.2.2.1 ⟨by decide, by decide⟩ ?_
    refine jJ_iload (pc := 265) dL_law_265 rfl ?_
    have eo2 : I3 o (Int.toNat 0) = ans := by rw [eo]; exact e2
    refine jJ_i2l (pc := 267) dL_law_267 ?_
    refine jJ_lcmp (pc := 268) dL_law_268 eo2 ?_
    refine jJ_if_eq (pc := 269) (tgt := 274) dL_law_269 (by decide) (fun _ => ?_) (fun zz => absurd rfl zz)
    refine jJ_goto (pc := 274) (tgt := 1160) dL_law_274 (by decide) ?_
    exact jJ_widen (by omega) (by omega) (kk I3 _ σ' _ _ hG2)
  · exact absurd hc hc'
  · exact absurd hc' hc
  · obtain ⟨hG2, eo⟩ := hG.fin hF hK1 hRF hV2 hG.2.2.2.1
    cases e1
    rw [e4]
    refine jJ_icmp_eq (pc := 252) (tgt := 257) dL_law_252 (by decide) (fun _ => ?_) (fun zz => absurd rfl zz)
    refine jJ_iload (pc := 257) dL_law_257 rfl ?_
    refine jJ_if_ne (pc := 259) (tgt := 274) dL_law_259 (by decide) (fun _ => ?_) (fun zz => absurd zz hec)
    refine jJ_goto (pc := 274) (tgt := 1160) dL_law_274 (by decide) ?_
    exact jJ_widen (by omega) (by omega) (kk I3 _ σ _ _ hG2)
theorem l_fault {cond : Prop} {ans ec : Int} (hz : eZ E = z) (hG : GS E C h m o c t u hb a I P σ) (hi : 0 ≤ i ∧ i + 5 < L) (hL : L ≤ 3072) (hcs : cs + 2 ≤ 601024 ∧ ss + 12 ≤ 7293034) (hec : ec ≠ 0) (hk : jCx E yX6_fault cX6_fault 2 (some FieldType.int) 100 1 [jp h, ji (xv xs (i + 1))] I P (kQ E C h c t u hb I P cond ans σ') (kX I P cond erN ec)) (hm : ∀ I1 P1, RfL E P1 m a → RV I1 m a σ → jC E yX7_fault cX7_fault 2 (some FieldType.int) 100 [jp m, ji (xv xs (i + 1))] I1 P1 (rM I1 P1 m a cond ans ec (fun J => RV J m a σ') (fun J => RV J m a σ))) (hW : cond → WV σ')
    (kk : ∀ I' P' σ'' v5 v6, GS E C h m o c t u hb a I' P' σ'' → jJ E RL cL_law 7 (some .boolean) room_1 (jLZ b L xs z) (cs + 2) (ss + 12) 1160 [some (jp b), some (jp h), some (jp m), some (jp o), some (ji i), v5, v6] [] I' P') : jJ E RL cL_law 7 (some .boolean) room_1 (jLZ b L xs z) cs ss 277 [some (jp b), some (jp h), some (jp m), some (jp o), some (ji i), l5, l6] [] I P := by
  refine jJ_aload_n (pc := 277) dL_law_277 rfl ?_
  refine jJ_arg (pc := 278) (j := 1) hz dL_law_278 dL_law_279 dL_law_281 dL_law_282 dL_law_283 rfl rfl hi hL (by decide) ?_
  refine jJ_aload_n (pc := 284) dL_law_284 rfl ?_
  refine jJ_callSw (pc := 285) (as := [_, _, _]) (d := 101) (mk := 1) (A := jNc) jLZ_eq jLZ_Nc jNc_m dL_law_285 wL_79 (Nat.le_of_ble_eq_true rfl) ⟨by decide, by decide, by show cs + 1 ≤ 601024; omega, by show ss + 6 * 1 ≤ 7293034; omega⟩ (w_fault hG.1 hG.2.2.2.2.2.1 hG.2.2.2.2.2.2.1 hk) ?_
  rintro r I1 P1 ⟨hF, hq⟩
  obtain ⟨hR1, hV1⟩ := hG.mid hF
  obtain ⟨k, rfl⟩ : ∃ k, r = some (ji k) := by rcases hq with ⟨_, rfl, _⟩ | ⟨_, rfl, _⟩ <;> exact ⟨_, rfl⟩
  refine jJ_istore (pc := 288) (ls' := [_, _, _, _, _, _, _]) dL_law_288 (Nat.le_of_ble_eq_true rfl) rfl ?_
  refine jJ_aload_n (pc := 290) dL_law_290 rfl ?_
  refine jJ_arg (pc := 291) (j := 1) hz dL_law_291 dL_law_292 dL_law_294 dL_law_295 dL_law_296 rfl rfl hi hL (by decide) ?_
  refine jJ_callV (pc := 297) (as := [_]) dL_law_297 mL_82 (jRcv_of hR1.1 rfl rfl) (Nat.le_of_ble_eq_true rfl) ⟨by decide, by decide, by show cs + 1 ≤ 601024; omega, by show ss + 6 * 1 ≤ 7293034; omega⟩ (hm I1 P1 hR1 hV1) ?_
  rintro r2 I2 P2 ⟨rfl, hRF, hr⟩
  obtain ⟨w, rfl⟩ : ∃ w, r2 = some (ji w) := hr.elim (fun zz => ⟨_, zz.2.1⟩) (fun zz => zz.2.1)
  refine jJ_istore (pc := 300) (ls' := [_, _, _, _, _, _, _]) dL_law_300 (Nat.le_of_ble_eq_true rfl) rfl ?_
  refine jJ_aload_n (pc := 302) dL_law_302 rfl ?_
  refine jJ_callV (pc := 303) (as := []) dL_law_303 mL_75 (jRcv_of hR1.1 rfl rfl) (Nat.le_of_ble_eq_true rfl) ⟨by decide, by decide, by show cs + 1 ≤ 601024; omega, by show ss + 6 * 1 ≤ 7293034; omega⟩ (r_thrown (d := 1) hR1) ?_
  rintro r3 I3 P3 ⟨rfl, rfl, rfl⟩
  refine jJ_iload (pc := 306) dL_law_306 rfl ?_
  rcases hq with ⟨hc, e1, e2, hK1⟩ | ⟨hc, e1, hK1⟩ <;> rcases hr with ⟨hc', e3, e4, hV2⟩ | ⟨hc', -, e4, hV2⟩
  · obtain ⟨hG2, eo⟩ := hG.fin hF hK1 hRF hV2 (hW hc)
    cases e1
    cases e3
    rw [e4]
    refine jJ_icmp_eq (pc := 308) (tgt := 313) dL_law_308 (by decide) (fun _ => ?_) (fun zz => absurd rfl zz)
    refine jJ_iload (pc := 313) dL_law_313 rfl ?_
    refine jJ_if_ne (pc := 315) (tgt := 330) dL_law_315 (by decide) (fun zz => absurd rfl zz) (fun _ => ?_)
    refine jJ_aload_n (pc := 318) dL_law_318 rfl ?_
    refine jJ_iconst (pc := 319) dL_law_319 (by decide) ?_
    refine jJ_lald (pc := 320) dL_law_320 hG.2.2.2.2.2.1 ⟨by decide, by decide⟩ ?_
    refine jJ_iload (pc := 321) dL_law_321 rfl ?_
    have eo2 : I3 o (Int.toNat 0) = ans := by rw [eo]; exact e2
    refine jJ_i2l (pc := 323) dL_law_323 ?_
    refine jJ_lcmp (pc := 324) dL_law_324 eo2 ?_
    refine jJ_if_eq (pc := 325) (tgt := 330) dL_law_325 (by decide) (fun _ => ?_) (fun zz => absurd rfl zz)
    refine jJ_goto (pc := 330) (tgt := 1160) dL_law_330 (by decide) ?_
    exact jJ_widen (by omega) (by omega) (kk I3 _ σ' _ _ hG2)
  · exact absurd hc hc'
  · exact absurd hc' hc
  · obtain ⟨hG2, eo⟩ := hG.fin hF hK1 hRF hV2 hG.2.2.2.1
    cases e1
    rw [e4]
    refine jJ_icmp_eq (pc := 308) (tgt := 313) dL_law_308 (by decide) (fun _ => ?_) (fun zz => absurd rfl zz)
    refine jJ_iload (pc := 313) dL_law_313 rfl ?_
    refine jJ_if_ne (pc := 315) (tgt := 330) dL_law_315 (by decide) (fun _ => ?_) (fun zz => absurd zz hec)
    refine jJ_goto (pc := 330) (tgt := 1160) dL_law_330 (by decide) ?_
    exact jJ_widen (by omega) (by omega) (kk I3 _ σ _ _ hG2)
theorem l_drop {cond : Prop} {ans ec : Int} (hz : eZ E = z) (hG : GS E C h m o c t u hb a I P σ) (hi : 0 ≤ i ∧ i + 5 < L) (hL : L ≤ 3072) (hcs : cs + 2 ≤ 601024 ∧ ss + 12 ≤ 7293034) (hec : ec ≠ 0) (hk : jCx E yX6_drop cX6_drop 3 (some FieldType.boolean) 100 1 [jp h, ji (xv xs (i + 1))] I P (kQ E C h c t u hb I P cond ans σ') (kX I P cond erI ec)) (hm : ∀ I1 P1, RfL E P1 m a → RV I1 m a σ → jC E yX7_drop cX7_drop 3 (some FieldType.boolean) 100 [jp m, ji (xv xs (i + 1))] I1 P1 (rM I1 P1 m a cond ans ec (fun J => RV J m a σ') (fun J => RV J m a σ))) (hW : cond → WV σ') (h01 : cond → ans = 0 ∨ ans = 1)
    (kk : ∀ I' P' σ'' v5 v6, GS E C h m o c t u hb a I' P' σ'' → jJ E RL cL_law 7 (some .boolean) room_1 (jLZ b L xs z) (cs + 2) (ss + 12) 1160 [some (jp b), some (jp h), some (jp m), some (jp o), some (ji i), v5, v6] [] I' P') : jJ E RL cL_law 7 (some .boolean) room_1 (jLZ b L xs z) cs ss 333 [some (jp b), some (jp h), some (jp m), some (jp o), some (ji i), l5, l6] [] I P := by
  refine jJ_aload_n (pc := 333) dL_law_333 rfl ?_
  refine jJ_arg (pc := 334) (j := 1) hz dL_law_334 dL_law_335 dL_law_337 dL_law_338 dL_law_339 rfl rfl hi hL (by decide) ?_
  refine jJ_aload_n (pc := 340) dL_law_340 rfl ?_
  refine jJ_callSw (pc := 341) (as := [_, _, _]) (d := 101) (mk := 1) (A := jNc) jLZ_eq jLZ_Nc jNc_m dL_law_341 wL_83 (Nat.le_of_ble_eq_true rfl) ⟨by decide, by decide, by show cs + 1 ≤ 601024; omega, by show ss + 6 * 1 ≤ 7293034; omega⟩ (w_drop hG.1 hG.2.2.2.2.2.1 hG.2.2.2.2.2.2.1 hk h01) ?_
  rintro r I1 P1 ⟨hF, hq⟩
  obtain ⟨hR1, hV1⟩ := hG.mid hF
  obtain ⟨k, rfl⟩ : ∃ k, r = some (ji k) := by rcases hq with ⟨_, rfl, _⟩ | ⟨_, rfl, _⟩ <;> exact ⟨_, rfl⟩
  refine jJ_istore (pc := 344) (ls' := [_, _, _, _, _, _, _]) dL_law_344 (Nat.le_of_ble_eq_true rfl) rfl ?_
  refine jJ_aload_n (pc := 346) dL_law_346 rfl ?_
  refine jJ_arg (pc := 347) (j := 1) hz dL_law_347 dL_law_348 dL_law_350 dL_law_351 dL_law_352 rfl rfl hi hL (by decide) ?_
  refine jJ_callV (pc := 353) (as := [_]) dL_law_353 mL_85 (jRcv_of hR1.1 rfl rfl) (Nat.le_of_ble_eq_true rfl) ⟨by decide, by decide, by show cs + 1 ≤ 601024; omega, by show ss + 6 * 1 ≤ 7293034; omega⟩ (hm I1 P1 hR1 hV1) ?_
  rintro r2 I2 P2 ⟨rfl, hRF, hr⟩
  obtain ⟨w, rfl⟩ : ∃ w, r2 = some (ji w) := hr.elim (fun zz => ⟨_, zz.2.1⟩) (fun zz => zz.2.1)
  refine jJ_istore (pc := 356) (ls' := [_, _, _, _, _, _, _]) dL_law_356 (Nat.le_of_ble_eq_true rfl) rfl ?_
  refine jJ_aload_n (pc := 358) dL_law_358 rfl ?_
  refine jJ_callV (pc := 359) (as := []) dL_law_359 mL_75 (jRcv_of hR1.1 rfl rfl) (Nat.le_of_ble_eq_true rfl) ⟨by decide, by decide, by show cs + 1 ≤ 601024; omega, by show ss + 6 * 1 ≤ 7293034; omega⟩ (r_thrown (d := 1) hR1) ?_
  rintro r3 I3 P3 ⟨rfl, rfl, rfl⟩
  refine jJ_iload (pc := 362) dL_law_362 rfl ?_
  rcases hq with ⟨hc, e1, e2, hK1⟩ | ⟨hc, e1, hK1⟩ <;> rcases hr with ⟨hc', e3, e4, hV2⟩ | ⟨hc', -, e4, hV2⟩
  · obtain ⟨hG2, eo⟩ := hG.fin hF hK1 hRF hV2 (hW hc)
    cases e1
    cases e3
    rw [e4]
    refine jJ_icmp_eq (pc := 364) (tgt := 369) dL_law_364 (by decide) (fun _ => ?_) (fun zz => absurd rfl zz)
    refine jJ_iload (pc := 369) dL_law_369 rfl ?_
    refine jJ_if_ne (pc := 371) (tgt := 393) dL_law_371 (by decide) (fun zz => absurd rfl zz) (fun _ => ?_)
    refine jJ_aload_n (pc := 374) dL_law_374 rfl ?_
    refine jJ_iconst (pc := 375) dL_law_375 (by decide) ?_
    refine jJ_lald (pc := 376) dL_law_376 hG.2.2.2.2.2.1 ⟨by decide, by decide⟩ ?_
    refine jJ_iload (pc := 377) dL_law_377 rfl ?_
    have eo2 : I3 o (Int.toNat 0) = ans := by rw [eo]; exact e2
    refine jJ_if_eq (pc := 379) (tgt := 386) dL_law_379 (by decide) (fun c0 => ?_) (fun c0 => ?_)
    · rw [c0] at eo2
      refine jJ_lconst (pc := 386) (v := 0) dL_law_386 (by decide) (by decide) ?_
      refine jJ_lcmp (pc := 387) dL_law_387 eo2 ?_
      refine jJ_if_eq (pc := 388) (tgt := 393) dL_law_388 (by decide) (fun _ => ?_) (fun zz => absurd rfl zz)
      refine jJ_goto (pc := 393) (tgt := 1160) dL_law_393 (by decide) ?_
      exact jJ_widen (by omega) (by omega) (kk I3 _ σ' _ _ hG2)
    · rw [(h01 hc).resolve_left c0] at eo2
      refine jJ_lconst (pc := 382) (v := 1) dL_law_382 (by decide) (by decide) ?_
      refine jJ_goto (pc := 383) (tgt := 387) dL_law_383 (by decide) ?_
      refine jJ_lcmp (pc := 387) dL_law_387 eo2 ?_
      refine jJ_if_eq (pc := 388) (tgt := 393) dL_law_388 (by decide) (fun _ => ?_) (fun zz => absurd rfl zz)
      refine jJ_goto (pc := 393) (tgt := 1160) dL_law_393 (by decide) ?_
      exact jJ_widen (by omega) (by omega) (kk I3 _ σ' _ _ hG2)
  · exact absurd hc hc'
  · exact absurd hc' hc
  · obtain ⟨hG2, eo⟩ := hG.fin hF hK1 hRF hV2 hG.2.2.2.1
    cases e1
    rw [e4]
    refine jJ_icmp_eq (pc := 364) (tgt := 369) dL_law_364 (by decide) (fun _ => ?_) (fun zz => absurd rfl zz)
    refine jJ_iload (pc := 369) dL_law_369 rfl ?_
    refine jJ_if_ne (pc := 371) (tgt := 393) dL_law_371 (by decide) (fun _ => ?_) (fun zz => absurd zz hec)
    refine jJ_goto (pc := 393) (tgt := 1160) dL_law_393 (by decide) ?_
    exact jJ_widen (by omega) (by omega) (kk I3 _ σ _ _ hG2)
theorem l_about {cond : Prop} {ans ec : Int} (hz : eZ E = z) (hG : GS E C h m o c t u hb a I P σ) (hi : 0 ≤ i ∧ i + 5 < L) (hL : L ≤ 3072) (hcs : cs + 2 ≤ 601024 ∧ ss + 12 ≤ 7293034) (hec : ec ≠ 0) (hk : jCx E yX6_about cX6_about 4 (some FieldType.int) 100 2 [jp h, ji (xv xs (i + 1)), ji (xv xs (i + 2))] I P (kQ E C h c t u hb I P cond ans σ') (kX I P cond erN ec)) (hm : ∀ I1 P1, RfL E P1 m a → RV I1 m a σ → jC E yX7_about cX7_about 3 (some FieldType.int) 100 [jp m, ji (xv xs (i + 1)), ji (xv xs (i + 2))] I1 P1 (rM I1 P1 m a cond ans ec (fun J => RV J m a σ') (fun J => RV J m a σ))) (hW : cond → WV σ')
    (kk : ∀ I' P' σ'' v5 v6, GS E C h m o c t u hb a I' P' σ'' → jJ E RL cL_law 7 (some .boolean) room_1 (jLZ b L xs z) (cs + 2) (ss + 12) 1160 [some (jp b), some (jp h), some (jp m), some (jp o), some (ji i), v5, v6] [] I' P') : jJ E RL cL_law 7 (some .boolean) room_1 (jLZ b L xs z) cs ss 396 [some (jp b), some (jp h), some (jp m), some (jp o), some (ji i), l5, l6] [] I P := by
  refine jJ_aload_n (pc := 396) dL_law_396 rfl ?_
  refine jJ_arg (pc := 397) (j := 1) hz dL_law_397 dL_law_398 dL_law_400 dL_law_401 dL_law_402 rfl rfl hi hL (by decide) ?_
  refine jJ_arg (pc := 403) (j := 2) hz dL_law_403 dL_law_404 dL_law_406 dL_law_407 dL_law_408 rfl rfl hi hL (by decide) ?_
  refine jJ_aload_n (pc := 409) dL_law_409 rfl ?_
  refine jJ_callSw (pc := 410) (as := [_, _, _, _]) (d := 101) (mk := 2) (A := jNc) jLZ_eq jLZ_Nc jNc_m dL_law_410 wL_86 (Nat.le_of_ble_eq_true rfl) ⟨by decide, by decide, by show cs + 2 ≤ 601024; omega, by show ss + 6 * 2 ≤ 7293034; omega⟩ (w_about hG.1 hG.2.2.2.2.2.1 hG.2.2.2.2.2.2.1 hk) ?_
  rintro r I1 P1 ⟨hF, hq⟩
  obtain ⟨hR1, hV1⟩ := hG.mid hF
  obtain ⟨k, rfl⟩ : ∃ k, r = some (ji k) := by rcases hq with ⟨_, rfl, _⟩ | ⟨_, rfl, _⟩ <;> exact ⟨_, rfl⟩
  refine jJ_istore (pc := 413) (ls' := [_, _, _, _, _, _, _]) dL_law_413 (Nat.le_of_ble_eq_true rfl) rfl ?_
  refine jJ_aload_n (pc := 415) dL_law_415 rfl ?_
  refine jJ_arg (pc := 416) (j := 1) hz dL_law_416 dL_law_417 dL_law_419 dL_law_420 dL_law_421 rfl rfl hi hL (by decide) ?_
  refine jJ_arg (pc := 422) (j := 2) hz dL_law_422 dL_law_423 dL_law_425 dL_law_426 dL_law_427 rfl rfl hi hL (by decide) ?_
  refine jJ_callV (pc := 428) (as := [_, _]) dL_law_428 mL_89 (jRcv_of hR1.1 rfl rfl) (Nat.le_of_ble_eq_true rfl) ⟨by decide, by decide, by show cs + 2 ≤ 601024; omega, by show ss + 6 * 2 ≤ 7293034; omega⟩ (hm I1 P1 hR1 hV1) ?_
  rintro r2 I2 P2 ⟨rfl, hRF, hr⟩
  obtain ⟨w, rfl⟩ : ∃ w, r2 = some (ji w) := hr.elim (fun zz => ⟨_, zz.2.1⟩) (fun zz => zz.2.1)
  refine jJ_istore (pc := 431) (ls' := [_, _, _, _, _, _, _]) dL_law_431 (Nat.le_of_ble_eq_true rfl) rfl ?_
  refine jJ_aload_n (pc := 433) dL_law_433 rfl ?_
  refine jJ_callV (pc := 434) (as := []) dL_law_434 mL_75 (jRcv_of hR1.1 rfl rfl) (Nat.le_of_ble_eq_true rfl) ⟨by decide, by decide, by show cs + 2 ≤ 601024; omega, by show ss + 6 * 2 ≤ 7293034; omega⟩ (r_thrown (d := 1) hR1) ?_
  rintro r3 I3 P3 ⟨rfl, rfl, rfl⟩
  refine jJ_iload (pc := 437) dL_law_437 rfl ?_
  rcases hq with ⟨hc, e1, e2, hK1⟩ | ⟨hc, e1, hK1⟩ <;> rcases hr with ⟨hc', e3, e4, hV2⟩ | ⟨hc', -, e4, hV2⟩
  · obtain ⟨hG2, eo⟩ := hG.fin hF hK1 hRF hV2 (hW hc)
    cases e1
    cases e3
    rw [e4]
    refine jJ_icmp_eq (pc := 439) (tgt := 444) dL_law_439 (by decide) (fun _ => ?_) (fun zz => absurd rfl zz)
    refine jJ_iload (pc := 444) dL_law_444 rfl ?_
    refine jJ_if_ne (pc := 446) (tgt := 461) dL_law_446 (by decide) (fun zz => absurd rfl zz) (fun _ => ?_)
    refine jJ_aload_n (pc := 449) dL_law_449 rfl ?_
    refine jJ_iconst (pc := 450) dL_law_450 (by decide) ?_
    refine jJ_lald (pc := 451) dL_law_451 hG.2.2.2.2.2.1 ⟨by decide, by decide⟩ ?_
    refine jJ_iload (pc := 452) dL_law_452 rfl ?_
    have eo2 : I3 o (Int.toNat 0) = ans := by rw [eo]; exact e2
    refine jJ_i2l (pc := 454) dL_law_454 ?_
    refine jJ_lcmp (pc := 455) dL_law_455 eo2 ?_
    refine jJ_if_eq (pc := 456) (tgt := 461) dL_law_456 (by decide) (fun _ => ?_) (fun zz => absurd rfl zz)
    refine jJ_goto (pc := 461) (tgt := 1160) dL_law_461 (by decide) ?_
    exact jJ_widen (by omega) (by omega) (kk I3 _ σ' _ _ hG2)
  · exact absurd hc hc'
  · exact absurd hc' hc
  · obtain ⟨hG2, eo⟩ := hG.fin hF hK1 hRF hV2 hG.2.2.2.1
    cases e1
    rw [e4]
    refine jJ_icmp_eq (pc := 439) (tgt := 444) dL_law_439 (by decide) (fun _ => ?_) (fun zz => absurd rfl zz)
    refine jJ_iload (pc := 444) dL_law_444 rfl ?_
    refine jJ_if_ne (pc := 446) (tgt := 461) dL_law_446 (by decide) (fun _ => ?_) (fun zz => absurd zz hec)
    refine jJ_goto (pc := 461) (tgt := 1160) dL_law_461 (by decide) ?_
    exact jJ_widen (by omega) (by omega) (kk I3 _ σ _ _ hG2)
theorem l_gap {cond : Prop} {ans ec : Int} (hz : eZ E = z) (hG : GS E C h m o c t u hb a I P σ) (hi : 0 ≤ i ∧ i + 5 < L) (hL : L ≤ 3072) (hcs : cs + 2 ≤ 601024 ∧ ss + 12 ≤ 7293034) (hec : ec ≠ 0) (hk : jCx E yX6_gap cX6_gap 5 (some FieldType.int) 100 2 [jp h, ji (xv xs (i + 1)), ji (xv xs (i + 2)), ji (xv xs (i + 3))] I P (kQ E C h c t u hb I P cond ans σ') (kX I P cond erN ec)) (hm : ∀ I1 P1, RfL E P1 m a → RV I1 m a σ → jC E yX7_gap cX7_gap 4 (some FieldType.int) 100 [jp m, ji (xv xs (i + 1)), ji (xv xs (i + 2)), ji (xv xs (i + 3))] I1 P1 (rM I1 P1 m a cond ans ec (fun J => RV J m a σ') (fun J => RV J m a σ))) (hW : cond → WV σ')
    (kk : ∀ I' P' σ'' v5 v6, GS E C h m o c t u hb a I' P' σ'' → jJ E RL cL_law 7 (some .boolean) room_1 (jLZ b L xs z) (cs + 2) (ss + 12) 1160 [some (jp b), some (jp h), some (jp m), some (jp o), some (ji i), v5, v6] [] I' P') : jJ E RL cL_law 7 (some .boolean) room_1 (jLZ b L xs z) cs ss 464 [some (jp b), some (jp h), some (jp m), some (jp o), some (ji i), l5, l6] [] I P := by
  refine jJ_aload_n (pc := 464) dL_law_464 rfl ?_
  refine jJ_arg (pc := 465) (j := 1) hz dL_law_465 dL_law_466 dL_law_468 dL_law_469 dL_law_470 rfl rfl hi hL (by decide) ?_
  refine jJ_arg (pc := 471) (j := 2) hz dL_law_471 dL_law_472 dL_law_474 dL_law_475 dL_law_476 rfl rfl hi hL (by decide) ?_
  refine jJ_arg (pc := 477) (j := 3) hz dL_law_477 dL_law_478 dL_law_480 dL_law_481 dL_law_482 rfl rfl hi hL (by decide) ?_
  refine jJ_aload_n (pc := 483) dL_law_483 rfl ?_
  refine jJ_callSw (pc := 484) (as := [_, _, _, _, _]) (d := 101) (mk := 2) (A := jNc) jLZ_eq jLZ_Nc jNc_m dL_law_484 wL_90 (Nat.le_of_ble_eq_true rfl) ⟨by decide, by decide, by show cs + 2 ≤ 601024; omega, by show ss + 6 * 2 ≤ 7293034; omega⟩ (w_gap hG.1 hG.2.2.2.2.2.1 hG.2.2.2.2.2.2.1 hk) ?_
  rintro r I1 P1 ⟨hF, hq⟩
  obtain ⟨hR1, hV1⟩ := hG.mid hF
  obtain ⟨k, rfl⟩ : ∃ k, r = some (ji k) := by rcases hq with ⟨_, rfl, _⟩ | ⟨_, rfl, _⟩ <;> exact ⟨_, rfl⟩
  refine jJ_istore (pc := 487) (ls' := [_, _, _, _, _, _, _]) dL_law_487 (Nat.le_of_ble_eq_true rfl) rfl ?_
  refine jJ_aload_n (pc := 489) dL_law_489 rfl ?_
  refine jJ_arg (pc := 490) (j := 1) hz dL_law_490 dL_law_491 dL_law_493 dL_law_494 dL_law_495 rfl rfl hi hL (by decide) ?_
  refine jJ_arg (pc := 496) (j := 2) hz dL_law_496 dL_law_497 dL_law_499 dL_law_500 dL_law_501 rfl rfl hi hL (by decide) ?_
  refine jJ_arg (pc := 502) (j := 3) hz dL_law_502 dL_law_503 dL_law_505 dL_law_506 dL_law_507 rfl rfl hi hL (by decide) ?_
  refine jJ_callV (pc := 508) (as := [_, _, _]) dL_law_508 mL_92 (jRcv_of hR1.1 rfl rfl) (Nat.le_of_ble_eq_true rfl) ⟨by decide, by decide, by show cs + 2 ≤ 601024; omega, by show ss + 6 * 2 ≤ 7293034; omega⟩ (hm I1 P1 hR1 hV1) ?_
  rintro r2 I2 P2 ⟨rfl, hRF, hr⟩
  obtain ⟨w, rfl⟩ : ∃ w, r2 = some (ji w) := hr.elim (fun zz => ⟨_, zz.2.1⟩) (fun zz => zz.2.1)
  refine jJ_istore (pc := 511) (ls' := [_, _, _, _, _, _, _]) dL_law_511 (Nat.le_of_ble_eq_true rfl) rfl ?_
  refine jJ_aload_n (pc := 513) dL_law_513 rfl ?_
  refine jJ_callV (pc := 514) (as := []) dL_law_514 mL_75 (jRcv_of hR1.1 rfl rfl) (Nat.le_of_ble_eq_true rfl) ⟨by decide, by decide, by show cs + 2 ≤ 601024; omega, by show ss + 6 * 2 ≤ 7293034; omega⟩ (r_thrown (d := 1) hR1) ?_
  rintro r3 I3 P3 ⟨rfl, rfl, rfl⟩
  refine jJ_iload (pc := 517) dL_law_517 rfl ?_
  rcases hq with ⟨hc, e1, e2, hK1⟩ | ⟨hc, e1, hK1⟩ <;> rcases hr with ⟨hc', e3, e4, hV2⟩ | ⟨hc', -, e4, hV2⟩
  · obtain ⟨hG2, eo⟩ := hG.fin hF hK1 hRF hV2 (hW hc)
    cases e1
    cases e3
    rw [e4]
    refine jJ_icmp_eq (pc := 519) (tgt := 524) dL_law_519 (by decide) (fun _ => ?_) (fun zz => absurd rfl zz)
    refine jJ_iload (pc := 524) dL_law_524 rfl ?_
    refine jJ_if_ne (pc := 526) (tgt := 541) dL_law_526 (by decide) (fun zz => absurd rfl zz) (fun _ => ?_)
    refine jJ_aload_n (pc := 529) dL_law_529 rfl ?_
    refine jJ_iconst (pc := 530) dL_law_530 (by decide) ?_
    refine jJ_lald (pc := 531) dL_law_531 hG.2.2.2.2.2.1 ⟨by decide, by decide⟩ ?_
    refine jJ_iload (pc := 532) dL_law_532 rfl ?_
    have eo2 : I3 o (Int.toNat 0) = ans := by rw [eo]; exact e2
    refine jJ_i2l (pc := 534) dL_law_534 ?_
    refine jJ_lcmp (pc := 535) dL_law_535 eo2 ?_
    refine jJ_if_eq (pc := 536) (tgt := 541) dL_law_536 (by decide) (fun _ => ?_) (fun zz => absurd rfl zz)
    refine jJ_goto (pc := 541) (tgt := 1160) dL_law_541 (by decide) ?_
    exact jJ_widen (by omega) (by omega) (kk I3 _ σ' _ _ hG2)
  · exact absurd hc hc'
  · exact absurd hc' hc
  · obtain ⟨hG2, eo⟩ := hG.fin hF hK1 hRF hV2 hG.2.2.2.1
    cases e1
    rw [e4]
    refine jJ_icmp_eq (pc := 519) (tgt := 524) dL_law_519 (by decide) (fun _ => ?_) (fun zz => absurd rfl zz)
    refine jJ_iload (pc := 524) dL_law_524 rfl ?_
    refine jJ_if_ne (pc := 526) (tgt := 541) dL_law_526 (by decide) (fun _ => ?_) (fun zz => absurd zz hec)
    refine jJ_goto (pc := 541) (tgt := 1160) dL_law_541 (by decide) ?_
    exact jJ_widen (by omega) (by omega) (kk I3 _ σ _ _ hG2)
theorem l_seen {cond : Prop} {ans ec : Int} (hz : eZ E = z) (hG : GS E C h m o c t u hb a I P σ) (hi : 0 ≤ i ∧ i + 5 < L) (hL : L ≤ 3072) (hcs : cs + 2 ≤ 601024 ∧ ss + 12 ≤ 7293034) (hec : ec ≠ 0) (hk : jCx E yX6_seen cX6_seen 5 (some FieldType.int) 100 1 [jp h, ji (xv xs (i + 1)), ji (xv xs (i + 2))] I P (kQ E C h c t u hb I P cond ans σ') (kX I P cond erI ec)) (hm : ∀ I1 P1, RfL E P1 m a → RV I1 m a σ → jC E yX7_seen cX7_seen 6 (some FieldType.int) 100 [jp m, ji (xv xs (i + 1)), ji (xv xs (i + 2))] I1 P1 (rM I1 P1 m a cond ans ec (fun J => RV J m a σ') (fun J => RV J m a σ))) (hW : cond → WV σ')
    (kk : ∀ I' P' σ'' v5 v6, GS E C h m o c t u hb a I' P' σ'' → jJ E RL cL_law 7 (some .boolean) room_1 (jLZ b L xs z) (cs + 2) (ss + 12) 1160 [some (jp b), some (jp h), some (jp m), some (jp o), some (ji i), v5, v6] [] I' P') : jJ E RL cL_law 7 (some .boolean) room_1 (jLZ b L xs z) cs ss 544 [some (jp b), some (jp h), some (jp m), some (jp o), some (ji i), l5, l6] [] I P := by
  refine jJ_aload_n (pc := 544) dL_law_544 rfl ?_
  refine jJ_arg (pc := 545) (j := 1) hz dL_law_545 dL_law_546 dL_law_548 dL_law_549 dL_law_550 rfl rfl hi hL (by decide) ?_
  refine jJ_arg (pc := 551) (j := 2) hz dL_law_551 dL_law_552 dL_law_554 dL_law_555 dL_law_556 rfl rfl hi hL (by decide) ?_
  refine jJ_aload_n (pc := 557) dL_law_557 rfl ?_
  refine jJ_callSw (pc := 558) (as := [_, _, _, _]) (d := 101) (mk := 1) (A := jNc) jLZ_eq jLZ_Nc jNc_m dL_law_558 wL_93 (Nat.le_of_ble_eq_true rfl) ⟨by decide, by decide, by show cs + 1 ≤ 601024; omega, by show ss + 6 * 1 ≤ 7293034; omega⟩ (w_seen hG.1 hG.2.2.2.2.2.1 hG.2.2.2.2.2.2.1 hk) ?_
  rintro r I1 P1 ⟨hF, hq⟩
  obtain ⟨hR1, hV1⟩ := hG.mid hF
  obtain ⟨k, rfl⟩ : ∃ k, r = some (ji k) := by rcases hq with ⟨_, rfl, _⟩ | ⟨_, rfl, _⟩ <;> exact ⟨_, rfl⟩
  refine jJ_istore (pc := 561) (ls' := [_, _, _, _, _, _, _]) dL_law_561 (Nat.le_of_ble_eq_true rfl) rfl ?_
  refine jJ_aload_n (pc := 563) dL_law_563 rfl ?_
  refine jJ_arg (pc := 564) (j := 1) hz dL_law_564 dL_law_565 dL_law_567 dL_law_568 dL_law_569 rfl rfl hi hL (by decide) ?_
  refine jJ_arg (pc := 570) (j := 2) hz dL_law_570 dL_law_571 dL_law_573 dL_law_574 dL_law_575 rfl rfl hi hL (by decide) ?_
  refine jJ_callV (pc := 576) (as := [_, _]) dL_law_576 mL_95 (jRcv_of hR1.1 rfl rfl) (Nat.le_of_ble_eq_true rfl) ⟨by decide, by decide, by show cs + 1 ≤ 601024; omega, by show ss + 6 * 1 ≤ 7293034; omega⟩ (hm I1 P1 hR1 hV1) ?_
  rintro r2 I2 P2 ⟨rfl, hRF, hr⟩
  obtain ⟨w, rfl⟩ : ∃ w, r2 = some (ji w) := hr.elim (fun zz => ⟨_, zz.2.1⟩) (fun zz => zz.2.1)
  refine jJ_istore (pc := 579) (ls' := [_, _, _, _, _, _, _]) dL_law_579 (Nat.le_of_ble_eq_true rfl) rfl ?_
  refine jJ_aload_n (pc := 581) dL_law_581 rfl ?_
  refine jJ_callV (pc := 582) (as := []) dL_law_582 mL_75 (jRcv_of hR1.1 rfl rfl) (Nat.le_of_ble_eq_true rfl) ⟨by decide, by decide, by show cs + 1 ≤ 601024; omega, by show ss + 6 * 1 ≤ 7293034; omega⟩ (r_thrown (d := 1) hR1) ?_
  rintro r3 I3 P3 ⟨rfl, rfl, rfl⟩
  refine jJ_iload (pc := 585) dL_law_585 rfl ?_
  rcases hq with ⟨hc, e1, e2, hK1⟩ | ⟨hc, e1, hK1⟩ <;> rcases hr with ⟨hc', e3, e4, hV2⟩ | ⟨hc', -, e4, hV2⟩
  · obtain ⟨hG2, eo⟩ := hG.fin hF hK1 hRF hV2 (hW hc)
    cases e1
    cases e3
    rw [e4]
    refine jJ_icmp_eq (pc := 587) (tgt := 592) dL_law_587 (by decide) (fun _ => ?_) (fun zz => absurd rfl zz)
    refine jJ_iload (pc := 592) dL_law_592 rfl ?_
    refine jJ_if_ne (pc := 594) (tgt := 609) dL_law_594 (by decide) (fun zz => absurd rfl zz) (fun _ => ?_)
    refine jJ_aload_n (pc := 597) dL_law_597 rfl ?_
    refine jJ_iconst (pc := 598) dL_law_598 (by decide) ?_
    refine jJ_lald (pc := 599) dL_law_599 hG.2.2.2.2.2.1 ⟨by decide, by decide⟩ ?_
    refine jJ_iload (pc := 600) dL_law_600 rfl ?_
    have eo2 : I3 o (Int.toNat 0) = ans := by rw [eo]; exact e2
    refine jJ_i2l (pc := 602) dL_law_602 ?_
    refine jJ_lcmp (pc := 603) dL_law_603 eo2 ?_
    refine jJ_if_eq (pc := 604) (tgt := 609) dL_law_604 (by decide) (fun _ => ?_) (fun zz => absurd rfl zz)
    refine jJ_goto (pc := 609) (tgt := 1160) dL_law_609 (by decide) ?_
    exact jJ_widen (by omega) (by omega) (kk I3 _ σ' _ _ hG2)
  · exact absurd hc hc'
  · exact absurd hc' hc
  · obtain ⟨hG2, eo⟩ := hG.fin hF hK1 hRF hV2 hG.2.2.2.1
    cases e1
    rw [e4]
    refine jJ_icmp_eq (pc := 587) (tgt := 592) dL_law_587 (by decide) (fun _ => ?_) (fun zz => absurd rfl zz)
    refine jJ_iload (pc := 592) dL_law_592 rfl ?_
    refine jJ_if_ne (pc := 594) (tgt := 609) dL_law_594 (by decide) (fun _ => ?_) (fun zz => absurd zz hec)
    refine jJ_goto (pc := 609) (tgt := 1160) dL_law_609 (by decide) ?_
    exact jJ_widen (by omega) (by omega) (kk I3 _ σ _ _ hG2)
theorem l_price {cond : Prop} {ans ec : Int} (hz : eZ E = z) (hG : GS E C h m o c t u hb a I P σ) (hi : 0 ≤ i ∧ i + 5 < L) (hL : L ≤ 3072) (hcs : cs + 2 ≤ 601024 ∧ ss + 12 ≤ 7293034) (hec : ec ≠ 0) (hk : jCx E yX6_price cX6_price 4 (some FieldType.int) 100 1 [jp h, ji (xv xs (i + 1)), ji (xv xs (i + 2))] I P (kQ E C h c t u hb I P cond ans σ') (kX I P cond erI ec)) (hm : ∀ I1 P1, RfL E P1 m a → RV I1 m a σ → jC E yX7_price cX7_price 4 (some FieldType.int) 100 [jp m, ji (xv xs (i + 1)), ji (xv xs (i + 2))] I1 P1 (rM I1 P1 m a cond ans ec (fun J => RV J m a σ') (fun J => RV J m a σ))) (hW : cond → WV σ')
    (kk : ∀ I' P' σ'' v5 v6, GS E C h m o c t u hb a I' P' σ'' → jJ E RL cL_law 7 (some .boolean) room_1 (jLZ b L xs z) (cs + 2) (ss + 12) 1160 [some (jp b), some (jp h), some (jp m), some (jp o), some (ji i), v5, v6] [] I' P') : jJ E RL cL_law 7 (some .boolean) room_1 (jLZ b L xs z) cs ss 612 [some (jp b), some (jp h), some (jp m), some (jp o), some (ji i), l5, l6] [] I P := by
  refine jJ_aload_n (pc := 612) dL_law_612 rfl ?_
  refine jJ_arg (pc := 613) (j := 1) hz dL_law_613 dL_law_614 dL_law_616 dL_law_617 dL_law_618 rfl rfl hi hL (by decide) ?_
  refine jJ_arg (pc := 619) (j := 2) hz dL_law_619 dL_law_620 dL_law_622 dL_law_623 dL_law_624 rfl rfl hi hL (by decide) ?_
  refine jJ_aload_n (pc := 625) dL_law_625 rfl ?_
  refine jJ_callSw (pc := 626) (as := [_, _, _, _]) (d := 101) (mk := 1) (A := jNc) jLZ_eq jLZ_Nc jNc_m dL_law_626 wL_96 (Nat.le_of_ble_eq_true rfl) ⟨by decide, by decide, by show cs + 1 ≤ 601024; omega, by show ss + 6 * 1 ≤ 7293034; omega⟩ (w_price hG.1 hG.2.2.2.2.2.1 hG.2.2.2.2.2.2.1 hk) ?_
  rintro r I1 P1 ⟨hF, hq⟩
  obtain ⟨hR1, hV1⟩ := hG.mid hF
  obtain ⟨k, rfl⟩ : ∃ k, r = some (ji k) := by rcases hq with ⟨_, rfl, _⟩ | ⟨_, rfl, _⟩ <;> exact ⟨_, rfl⟩
  refine jJ_istore (pc := 629) (ls' := [_, _, _, _, _, _, _]) dL_law_629 (Nat.le_of_ble_eq_true rfl) rfl ?_
  refine jJ_aload_n (pc := 631) dL_law_631 rfl ?_
  refine jJ_arg (pc := 632) (j := 1) hz dL_law_632 dL_law_633 dL_law_635 dL_law_636 dL_law_637 rfl rfl hi hL (by decide) ?_
  refine jJ_arg (pc := 638) (j := 2) hz dL_law_638 dL_law_639 dL_law_641 dL_law_642 dL_law_643 rfl rfl hi hL (by decide) ?_
  refine jJ_callV (pc := 644) (as := [_, _]) dL_law_644 mL_98 (jRcv_of hR1.1 rfl rfl) (Nat.le_of_ble_eq_true rfl) ⟨by decide, by decide, by show cs + 1 ≤ 601024; omega, by show ss + 6 * 1 ≤ 7293034; omega⟩ (hm I1 P1 hR1 hV1) ?_
  rintro r2 I2 P2 ⟨rfl, hRF, hr⟩
  obtain ⟨w, rfl⟩ : ∃ w, r2 = some (ji w) := hr.elim (fun zz => ⟨_, zz.2.1⟩) (fun zz => zz.2.1)
  refine jJ_istore (pc := 647) (ls' := [_, _, _, _, _, _, _]) dL_law_647 (Nat.le_of_ble_eq_true rfl) rfl ?_
  refine jJ_aload_n (pc := 649) dL_law_649 rfl ?_
  refine jJ_callV (pc := 650) (as := []) dL_law_650 mL_75 (jRcv_of hR1.1 rfl rfl) (Nat.le_of_ble_eq_true rfl) ⟨by decide, by decide, by show cs + 1 ≤ 601024; omega, by show ss + 6 * 1 ≤ 7293034; omega⟩ (r_thrown (d := 1) hR1) ?_
  rintro r3 I3 P3 ⟨rfl, rfl, rfl⟩
  refine jJ_iload (pc := 653) dL_law_653 rfl ?_
  rcases hq with ⟨hc, e1, e2, hK1⟩ | ⟨hc, e1, hK1⟩ <;> rcases hr with ⟨hc', e3, e4, hV2⟩ | ⟨hc', -, e4, hV2⟩
  · obtain ⟨hG2, eo⟩ := hG.fin hF hK1 hRF hV2 (hW hc)
    cases e1
    cases e3
    rw [e4]
    refine jJ_icmp_eq (pc := 655) (tgt := 660) dL_law_655 (by decide) (fun _ => ?_) (fun zz => absurd rfl zz)
    refine jJ_iload (pc := 660) dL_law_660 rfl ?_
    refine jJ_if_ne (pc := 662) (tgt := 677) dL_law_662 (by decide) (fun zz => absurd rfl zz) (fun _ => ?_)
    refine jJ_aload_n (pc := 665) dL_law_665 rfl ?_
    refine jJ_iconst (pc := 666) dL_law_666 (by decide) ?_
    refine jJ_lald (pc := 667) dL_law_667 hG.2.2.2.2.2.1 ⟨by decide, by decide⟩ ?_
    refine jJ_iload (pc := 668) dL_law_668 rfl ?_
    have eo2 : I3 o (Int.toNat 0) = ans := by rw [eo]; exact e2
    refine jJ_i2l (pc := 670) dL_law_670 ?_
    refine jJ_lcmp (pc := 671) dL_law_671 eo2 ?_
    refine jJ_if_eq (pc := 672) (tgt := 677) dL_law_672 (by decide) (fun _ => ?_) (fun zz => absurd rfl zz)
    refine jJ_goto (pc := 677) (tgt := 1160) dL_law_677 (by decide) ?_
    exact jJ_widen (by omega) (by omega) (kk I3 _ σ' _ _ hG2)
  · exact absurd hc hc'
  · exact absurd hc' hc
  · obtain ⟨hG2, eo⟩ := hG.fin hF hK1 hRF hV2 hG.2.2.2.1
    cases e1
    rw [e4]
    refine jJ_icmp_eq (pc := 655) (tgt := 660) dL_law_655 (by decide) (fun _ => ?_) (fun zz => absurd rfl zz)
    refine jJ_iload (pc := 660) dL_law_660 rfl ?_
    refine jJ_if_ne (pc := 662) (tgt := 677) dL_law_662 (by decide) (fun _ => ?_) (fun zz => absurd zz hec)
    refine jJ_goto (pc := 677) (tgt := 1160) dL_law_677 (by decide) ?_
    exact jJ_widen (by omega) (by omega) (kk I3 _ σ _ _ hG2)
theorem l_find {ans : Int} (hz : eZ E = z) (hG : GS E C h m o c t u hb a I P σ) (hi : 0 ≤ i ∧ i + 5 < L) (hL : L ≤ 3072) (hcs : cs + 2 ≤ 601024 ∧ ss + 12 ≤ 7293034) (hk : jC E yX6_find cX6_find 3 (some FieldType.int) 100 [jp h] I P (kQ E C h c t u hb I P True ans σ')) (hm : ∀ I1 P1, RfL E P1 m a → RV I1 m a σ → jC E yX7_find cX7_find 8 (some FieldType.int) 100 [jp m] I1 P1 (rM I1 P1 m a True ans 1 (fun J => RV J m a σ') (fun J => RV J m a σ))) (hW : WV σ')
    (kk : ∀ I' P' σ'' v5 v6, GS E C h m o c t u hb a I' P' σ'' → jJ E RL cL_law 7 (some .boolean) room_1 (jLZ b L xs z) (cs + 2) (ss + 12) 1160 [some (jp b), some (jp h), some (jp m), some (jp o), some (ji i), v5, v6] [] I' P') : jJ E RL cL_law 7 (some .boolean) room_1 (jLZ b L xs z) cs ss 680 [some (jp b), some (jp h), some (jp m), some (jp o), some (ji i), l5, l6] [] I P := by
  refine jJ_aload_n (pc := 680) dL_law_680 rfl ?_
  refine jJ_callV (pc := 681) (as := []) dL_law_681 mL_99 (jRcv_of hG.1.kh rfl rfl) (Nat.le_of_ble_eq_true rfl) ⟨by decide, by decide, by show cs ≤ 601024; omega, by show ss ≤ 7293034; omega⟩ hk ?_
  rintro r I1 P1 ⟨-, rfl, hK1, hF0⟩
  have hF : FR (fun b => C b ∨ b = o) I P I1 P1 := fun b' hb' => hF0 b' (fun z => hb' (Or.inl z))
  obtain ⟨hR1, hV1⟩ := hG.mid hF
  refine jJ_aload_n (pc := 684) dL_law_684 rfl ?_
  refine jJ_callV (pc := 685) (as := []) dL_law_685 mL_102 (jRcv_of hR1.1 rfl rfl) (Nat.le_of_ble_eq_true rfl) ⟨by decide, by decide, by show cs ≤ 601024; omega, by show ss ≤ 7293034; omega⟩ (hm I1 P1 hR1 hV1) ?_
  rintro r2 I2 P2 ⟨rfl, hRF, ⟨-, rfl, e4, hV2⟩ | ⟨hn, -⟩⟩
  · obtain ⟨hG2, -⟩ := hG.fin hF hK1 hRF hV2 hW
    refine jJ_icmp_eq (pc := 688) (tgt := 1160) dL_law_688 (by decide) (fun _ => ?_) (fun zz => absurd rfl zz)
    exact jJ_widen (by omega) (by omega) (kk I2 _ σ' l5 l6 hG2)
  · exact absurd trivial hn
theorem l_habit {cond : Prop} {ans ec : Int} (hz : eZ E = z) (hG : GS E C h m o c t u hb a I P σ) (hi : 0 ≤ i ∧ i + 5 < L) (hL : L ≤ 3072) (hcs : cs + 2 ≤ 601024 ∧ ss + 12 ≤ 7293034) (hec : ec ≠ 0) (hk : jCx E yX6_habit cX6_habit 3 (some FieldType.int) 100 1 [jp h, ji (xv xs (i + 1)), ji (xv xs (i + 2))] I P (kQ E C h c t u hb I P cond ans σ') (kX I P cond erI ec)) (hm : ∀ I1 P1, RfL E P1 m a → RV I1 m a σ → jC E yX7_habit cX7_habit 3 (some FieldType.int) 100 [jp m, ji (xv xs (i + 1)), ji (xv xs (i + 2))] I1 P1 (rM I1 P1 m a cond ans ec (fun J => RV J m a σ') (fun J => RV J m a σ))) (hW : cond → WV σ')
    (kk : ∀ I' P' σ'' v5 v6, GS E C h m o c t u hb a I' P' σ'' → jJ E RL cL_law 7 (some .boolean) room_1 (jLZ b L xs z) (cs + 2) (ss + 12) 1160 [some (jp b), some (jp h), some (jp m), some (jp o), some (ji i), v5, v6] [] I' P') : jJ E RL cL_law 7 (some .boolean) room_1 (jLZ b L xs z) cs ss 693 [some (jp b), some (jp h), some (jp m), some (jp o), some (ji i), l5, l6] [] I P := by
  refine jJ_aload_n (pc := 693) dL_law_693 rfl ?_
  refine jJ_arg (pc := 694) (j := 1) hz dL_law_694 dL_law_695 dL_law_697 dL_law_698 dL_law_699 rfl rfl hi hL (by decide) ?_
  refine jJ_arg (pc := 700) (j := 2) hz dL_law_700 dL_law_701 dL_law_703 dL_law_704 dL_law_705 rfl rfl hi hL (by decide) ?_
  refine jJ_aload_n (pc := 706) dL_law_706 rfl ?_
  refine jJ_callSw (pc := 707) (as := [_, _, _, _]) (d := 101) (mk := 1) (A := jNc) jLZ_eq jLZ_Nc jNc_m dL_law_707 wL_103 (Nat.le_of_ble_eq_true rfl) ⟨by decide, by decide, by show cs + 1 ≤ 601024; omega, by show ss + 6 * 1 ≤ 7293034; omega⟩ (w_habit hG.1 hG.2.2.2.2.2.1 hG.2.2.2.2.2.2.1 hk) ?_
  rintro r I1 P1 ⟨hF, hq⟩
  obtain ⟨hR1, hV1⟩ := hG.mid hF
  obtain ⟨k, rfl⟩ : ∃ k, r = some (ji k) := by rcases hq with ⟨_, rfl, _⟩ | ⟨_, rfl, _⟩ <;> exact ⟨_, rfl⟩
  refine jJ_istore (pc := 710) (ls' := [_, _, _, _, _, _, _]) dL_law_710 (Nat.le_of_ble_eq_true rfl) rfl ?_
  refine jJ_aload_n (pc := 712) dL_law_712 rfl ?_
  refine jJ_arg (pc := 713) (j := 1) hz dL_law_713 dL_law_714 dL_law_716 dL_law_717 dL_law_718 rfl rfl hi hL (by decide) ?_
  refine jJ_arg (pc := 719) (j := 2) hz dL_law_719 dL_law_720 dL_law_722 dL_law_723 dL_law_724 rfl rfl hi hL (by decide) ?_
  refine jJ_callV (pc := 725) (as := [_, _]) dL_law_725 mL_105 (jRcv_of hR1.1 rfl rfl) (Nat.le_of_ble_eq_true rfl) ⟨by decide, by decide, by show cs + 1 ≤ 601024; omega, by show ss + 6 * 1 ≤ 7293034; omega⟩ (hm I1 P1 hR1 hV1) ?_
  rintro r2 I2 P2 ⟨rfl, hRF, hr⟩
  obtain ⟨w, rfl⟩ : ∃ w, r2 = some (ji w) := hr.elim (fun zz => ⟨_, zz.2.1⟩) (fun zz => zz.2.1)
  refine jJ_istore (pc := 728) (ls' := [_, _, _, _, _, _, _]) dL_law_728 (Nat.le_of_ble_eq_true rfl) rfl ?_
  refine jJ_aload_n (pc := 730) dL_law_730 rfl ?_
  refine jJ_callV (pc := 731) (as := []) dL_law_731 mL_75 (jRcv_of hR1.1 rfl rfl) (Nat.le_of_ble_eq_true rfl) ⟨by decide, by decide, by show cs + 1 ≤ 601024; omega, by show ss + 6 * 1 ≤ 7293034; omega⟩ (r_thrown (d := 1) hR1) ?_
  rintro r3 I3 P3 ⟨rfl, rfl, rfl⟩
  refine jJ_iload (pc := 734) dL_law_734 rfl ?_
  rcases hq with ⟨hc, e1, e2, hK1⟩ | ⟨hc, e1, hK1⟩ <;> rcases hr with ⟨hc', e3, e4, hV2⟩ | ⟨hc', -, e4, hV2⟩
  · obtain ⟨hG2, eo⟩ := hG.fin hF hK1 hRF hV2 (hW hc)
    cases e1
    cases e3
    rw [e4]
    refine jJ_icmp_eq (pc := 736) (tgt := 741) dL_law_736 (by decide) (fun _ => ?_) (fun zz => absurd rfl zz)
    refine jJ_iload (pc := 741) dL_law_741 rfl ?_
    refine jJ_if_ne (pc := 743) (tgt := 758) dL_law_743 (by decide) (fun zz => absurd rfl zz) (fun _ => ?_)
    refine jJ_aload_n (pc := 746) dL_law_746 rfl ?_
    refine jJ_iconst (pc := 747) dL_law_747 (by decide) ?_
    refine jJ_lald (pc := 748) dL_law_748 hG.2.2.2.2.2.1 ⟨by decide, by decide⟩ ?_
    refine jJ_iload (pc := 749) dL_law_749 rfl ?_
    have eo2 : I3 o (Int.toNat 0) = ans := by rw [eo]; exact e2
    refine jJ_i2l (pc := 751) dL_law_751 ?_
    refine jJ_lcmp (pc := 752) dL_law_752 eo2 ?_
    refine jJ_if_eq (pc := 753) (tgt := 758) dL_law_753 (by decide) (fun _ => ?_) (fun zz => absurd rfl zz)
    refine jJ_goto (pc := 758) (tgt := 1160) dL_law_758 (by decide) ?_
    exact jJ_widen (by omega) (by omega) (kk I3 _ σ' _ _ hG2)
  · exact absurd hc hc'
  · exact absurd hc' hc
  · obtain ⟨hG2, eo⟩ := hG.fin hF hK1 hRF hV2 hG.2.2.2.1
    cases e1
    rw [e4]
    refine jJ_icmp_eq (pc := 736) (tgt := 741) dL_law_736 (by decide) (fun _ => ?_) (fun zz => absurd rfl zz)
    refine jJ_iload (pc := 741) dL_law_741 rfl ?_
    refine jJ_if_ne (pc := 743) (tgt := 758) dL_law_743 (by decide) (fun _ => ?_) (fun zz => absurd zz hec)
    refine jJ_goto (pc := 758) (tgt := 1160) dL_law_758 (by decide) ?_
    exact jJ_widen (by omega) (by omega) (kk I3 _ σ _ _ hG2)
theorem l_exception {cond : Prop} {ans ec : Int} (hz : eZ E = z) (hG : GS E C h m o c t u hb a I P σ) (hi : 0 ≤ i ∧ i + 5 < L) (hL : L ≤ 3072) (hcs : cs + 2 ≤ 601024 ∧ ss + 12 ≤ 7293034) (hec : ec ≠ 0) (hk : jCx E yX6_exception cX6_exception 7 (some FieldType.int) 100 2 [jp h, ji (xv xs (i + 1)), ji (xv xs (i + 2))] I P (kQ E C h c t u hb I P cond ans σ') (kX I P cond erB ec)) (hm : ∀ I1 P1, RfL E P1 m a → RV I1 m a σ → jC E yX7_exception cX7_exception 5 (some FieldType.int) 100 [jp m, ji (xv xs (i + 1)), ji (xv xs (i + 2))] I1 P1 (rM I1 P1 m a cond ans ec (fun J => RV J m a σ') (fun J => RV J m a σ))) (hW : cond → WV σ')
    (kk : ∀ I' P' σ'' v5 v6, GS E C h m o c t u hb a I' P' σ'' → jJ E RL cL_law 7 (some .boolean) room_1 (jLZ b L xs z) (cs + 2) (ss + 12) 1160 [some (jp b), some (jp h), some (jp m), some (jp o), some (ji i), v5, v6] [] I' P') : jJ E RL cL_law 7 (some .boolean) room_1 (jLZ b L xs z) cs ss 761 [some (jp b), some (jp h), some (jp m), some (jp o), some (ji i), l5, l6] [] I P := by
  refine jJ_aload_n (pc := 761) dL_law_761 rfl ?_
  refine jJ_arg (pc := 762) (j := 1) hz dL_law_762 dL_law_763 dL_law_765 dL_law_766 dL_law_767 rfl rfl hi hL (by decide) ?_
  refine jJ_arg (pc := 768) (j := 2) hz dL_law_768 dL_law_769 dL_law_771 dL_law_772 dL_law_773 rfl rfl hi hL (by decide) ?_
  refine jJ_aload_n (pc := 774) dL_law_774 rfl ?_
  refine jJ_callSw (pc := 775) (as := [_, _, _, _]) (d := 101) (mk := 2) (A := jNc) jLZ_eq jLZ_Nc jNc_m dL_law_775 wL_106 (Nat.le_of_ble_eq_true rfl) ⟨by decide, by decide, by show cs + 2 ≤ 601024; omega, by show ss + 6 * 2 ≤ 7293034; omega⟩ (w_exception hG.1 hG.2.2.2.2.2.1 hG.2.2.2.2.2.2.1 hk) ?_
  rintro r I1 P1 ⟨hF, hq⟩
  obtain ⟨hR1, hV1⟩ := hG.mid hF
  obtain ⟨k, rfl⟩ : ∃ k, r = some (ji k) := by rcases hq with ⟨_, rfl, _⟩ | ⟨_, rfl, _⟩ <;> exact ⟨_, rfl⟩
  refine jJ_istore (pc := 778) (ls' := [_, _, _, _, _, _, _]) dL_law_778 (Nat.le_of_ble_eq_true rfl) rfl ?_
  refine jJ_aload_n (pc := 780) dL_law_780 rfl ?_
  refine jJ_arg (pc := 781) (j := 1) hz dL_law_781 dL_law_782 dL_law_784 dL_law_785 dL_law_786 rfl rfl hi hL (by decide) ?_
  refine jJ_arg (pc := 787) (j := 2) hz dL_law_787 dL_law_788 dL_law_790 dL_law_791 dL_law_792 rfl rfl hi hL (by decide) ?_
  refine jJ_callV (pc := 793) (as := [_, _]) dL_law_793 mL_108 (jRcv_of hR1.1 rfl rfl) (Nat.le_of_ble_eq_true rfl) ⟨by decide, by decide, by show cs + 2 ≤ 601024; omega, by show ss + 6 * 2 ≤ 7293034; omega⟩ (hm I1 P1 hR1 hV1) ?_
  rintro r2 I2 P2 ⟨rfl, hRF, hr⟩
  obtain ⟨w, rfl⟩ : ∃ w, r2 = some (ji w) := hr.elim (fun zz => ⟨_, zz.2.1⟩) (fun zz => zz.2.1)
  refine jJ_istore (pc := 796) (ls' := [_, _, _, _, _, _, _]) dL_law_796 (Nat.le_of_ble_eq_true rfl) rfl ?_
  refine jJ_aload_n (pc := 798) dL_law_798 rfl ?_
  refine jJ_callV (pc := 799) (as := []) dL_law_799 mL_75 (jRcv_of hR1.1 rfl rfl) (Nat.le_of_ble_eq_true rfl) ⟨by decide, by decide, by show cs + 2 ≤ 601024; omega, by show ss + 6 * 2 ≤ 7293034; omega⟩ (r_thrown (d := 1) hR1) ?_
  rintro r3 I3 P3 ⟨rfl, rfl, rfl⟩
  refine jJ_iload (pc := 802) dL_law_802 rfl ?_
  rcases hq with ⟨hc, e1, e2, hK1⟩ | ⟨hc, e1, hK1⟩ <;> rcases hr with ⟨hc', e3, e4, hV2⟩ | ⟨hc', -, e4, hV2⟩
  · obtain ⟨hG2, eo⟩ := hG.fin hF hK1 hRF hV2 (hW hc)
    cases e1
    cases e3
    rw [e4]
    refine jJ_icmp_eq (pc := 804) (tgt := 809) dL_law_804 (by decide) (fun _ => ?_) (fun zz => absurd rfl zz)
    refine jJ_iload (pc := 809) dL_law_809 rfl ?_
    refine jJ_if_ne (pc := 811) (tgt := 826) dL_law_811 (by decide) (fun zz => absurd rfl zz) (fun _ => ?_)
    refine jJ_aload_n (pc := 814) dL_law_814 rfl ?_
    refine jJ_iconst (pc := 815) dL_law_815 (by decide) ?_
    refine jJ_lald (pc := 816) dL_law_816 hG.2.2.2.2.2.1 ⟨by decide, by decide⟩ ?_
    refine jJ_iload (pc := 817) dL_law_817 rfl ?_
    have eo2 : I3 o (Int.toNat 0) = ans := by rw [eo]; exact e2
    refine jJ_i2l (pc := 819) dL_law_819 ?_
    refine jJ_lcmp (pc := 820) dL_law_820 eo2 ?_
    refine jJ_if_eq (pc := 821) (tgt := 826) dL_law_821 (by decide) (fun _ => ?_) (fun zz => absurd rfl zz)
    refine jJ_goto (pc := 826) (tgt := 1160) dL_law_826 (by decide) ?_
    exact jJ_widen (by omega) (by omega) (kk I3 _ σ' _ _ hG2)
  · exact absurd hc hc'
  · exact absurd hc' hc
  · obtain ⟨hG2, eo⟩ := hG.fin hF hK1 hRF hV2 hG.2.2.2.1
    cases e1
    rw [e4]
    refine jJ_icmp_eq (pc := 804) (tgt := 809) dL_law_804 (by decide) (fun _ => ?_) (fun zz => absurd rfl zz)
    refine jJ_iload (pc := 809) dL_law_809 rfl ?_
    refine jJ_if_ne (pc := 811) (tgt := 826) dL_law_811 (by decide) (fun _ => ?_) (fun zz => absurd zz hec)
    refine jJ_goto (pc := 826) (tgt := 1160) dL_law_826 (by decide) ?_
    exact jJ_widen (by omega) (by omega) (kk I3 _ σ _ _ hG2)
theorem l_lay {cond : Prop} {ans ec : Int} (hz : eZ E = z) (hG : GS E C h m o c t u hb a I P σ) (hi : 0 ≤ i ∧ i + 5 < L) (hL : L ≤ 3072) (hcs : cs + 2 ≤ 601024 ∧ ss + 12 ≤ 7293034) (hec : ec ≠ 0) (hk : jCx E yX6_lay cX6_lay 4 (some FieldType.int) 100 1 [jp h, ji (xv xs (i + 1))] I P (kQ E C h c t u hb I P cond ans σ') (kX I P cond erN ec)) (hm : ∀ I1 P1, RfL E P1 m a → RV I1 m a σ → jC E yX7_lay cX7_lay 6 (some FieldType.int) 100 [jp m, ji (xv xs (i + 1))] I1 P1 (rM I1 P1 m a cond ans ec (fun J => RV J m a σ') (fun J => RV J m a σ))) (hW : cond → WV σ')
    (kk : ∀ I' P' σ'' v5 v6, GS E C h m o c t u hb a I' P' σ'' → jJ E RL cL_law 7 (some .boolean) room_1 (jLZ b L xs z) (cs + 2) (ss + 12) 1160 [some (jp b), some (jp h), some (jp m), some (jp o), some (ji i), v5, v6] [] I' P') : jJ E RL cL_law 7 (some .boolean) room_1 (jLZ b L xs z) cs ss 829 [some (jp b), some (jp h), some (jp m), some (jp o), some (ji i), l5, l6] [] I P := by
  refine jJ_aload_n (pc := 829) dL_law_829 rfl ?_
  refine jJ_arg (pc := 830) (j := 1) hz dL_law_830 dL_law_831 dL_law_833 dL_law_834 dL_law_835 rfl rfl hi hL (by decide) ?_
  refine jJ_aload_n (pc := 836) dL_law_836 rfl ?_
  refine jJ_callSw (pc := 837) (as := [_, _, _]) (d := 101) (mk := 1) (A := jNc) jLZ_eq jLZ_Nc jNc_m dL_law_837 wL_109 (Nat.le_of_ble_eq_true rfl) ⟨by decide, by decide, by show cs + 1 ≤ 601024; omega, by show ss + 6 * 1 ≤ 7293034; omega⟩ (w_lay hG.1 hG.2.2.2.2.2.1 hG.2.2.2.2.2.2.1 hk) ?_
  rintro r I1 P1 ⟨hF, hq⟩
  obtain ⟨hR1, hV1⟩ := hG.mid hF
  obtain ⟨k, rfl⟩ : ∃ k, r = some (ji k) := by rcases hq with ⟨_, rfl, _⟩ | ⟨_, rfl, _⟩ <;> exact ⟨_, rfl⟩
  refine jJ_istore (pc := 840) (ls' := [_, _, _, _, _, _, _]) dL_law_840 (Nat.le_of_ble_eq_true rfl) rfl ?_
  refine jJ_aload_n (pc := 842) dL_law_842 rfl ?_
  refine jJ_arg (pc := 843) (j := 1) hz dL_law_843 dL_law_844 dL_law_846 dL_law_847 dL_law_848 rfl rfl hi hL (by decide) ?_
  refine jJ_callV (pc := 849) (as := [_]) dL_law_849 mL_111 (jRcv_of hR1.1 rfl rfl) (Nat.le_of_ble_eq_true rfl) ⟨by decide, by decide, by show cs + 1 ≤ 601024; omega, by show ss + 6 * 1 ≤ 7293034; omega⟩ (hm I1 P1 hR1 hV1) ?_
  rintro r2 I2 P2 ⟨rfl, hRF, hr⟩
  obtain ⟨w, rfl⟩ : ∃ w, r2 = some (ji w) := hr.elim (fun zz => ⟨_, zz.2.1⟩) (fun zz => zz.2.1)
  refine jJ_istore (pc := 852) (ls' := [_, _, _, _, _, _, _]) dL_law_852 (Nat.le_of_ble_eq_true rfl) rfl ?_
  refine jJ_aload_n (pc := 854) dL_law_854 rfl ?_
  refine jJ_callV (pc := 855) (as := []) dL_law_855 mL_75 (jRcv_of hR1.1 rfl rfl) (Nat.le_of_ble_eq_true rfl) ⟨by decide, by decide, by show cs + 1 ≤ 601024; omega, by show ss + 6 * 1 ≤ 7293034; omega⟩ (r_thrown (d := 1) hR1) ?_
  rintro r3 I3 P3 ⟨rfl, rfl, rfl⟩
  refine jJ_iload (pc := 858) dL_law_858 rfl ?_
  rcases hq with ⟨hc, e1, e2, hK1⟩ | ⟨hc, e1, hK1⟩ <;> rcases hr with ⟨hc', e3, e4, hV2⟩ | ⟨hc', -, e4, hV2⟩
  · obtain ⟨hG2, eo⟩ := hG.fin hF hK1 hRF hV2 (hW hc)
    cases e1
    cases e3
    rw [e4]
    refine jJ_icmp_eq (pc := 860) (tgt := 865) dL_law_860 (by decide) (fun _ => ?_) (fun zz => absurd rfl zz)
    refine jJ_iload (pc := 865) dL_law_865 rfl ?_
    refine jJ_if_ne (pc := 867) (tgt := 882) dL_law_867 (by decide) (fun zz => absurd rfl zz) (fun _ => ?_)
    refine jJ_aload_n (pc := 870) dL_law_870 rfl ?_
    refine jJ_iconst (pc := 871) dL_law_871 (by decide) ?_
    refine jJ_lald (pc := 872) dL_law_872 hG.2.2.2.2.2.1 ⟨by decide, by decide⟩ ?_
    refine jJ_iload (pc := 873) dL_law_873 rfl ?_
    have eo2 : I3 o (Int.toNat 0) = ans := by rw [eo]; exact e2
    refine jJ_i2l (pc := 875) dL_law_875 ?_
    refine jJ_lcmp (pc := 876) dL_law_876 eo2 ?_
    refine jJ_if_eq (pc := 877) (tgt := 882) dL_law_877 (by decide) (fun _ => ?_) (fun zz => absurd rfl zz)
    refine jJ_goto (pc := 882) (tgt := 1160) dL_law_882 (by decide) ?_
    exact jJ_widen (by omega) (by omega) (kk I3 _ σ' _ _ hG2)
  · exact absurd hc hc'
  · exact absurd hc' hc
  · obtain ⟨hG2, eo⟩ := hG.fin hF hK1 hRF hV2 hG.2.2.2.1
    cases e1
    rw [e4]
    refine jJ_icmp_eq (pc := 860) (tgt := 865) dL_law_860 (by decide) (fun _ => ?_) (fun zz => absurd rfl zz)
    refine jJ_iload (pc := 865) dL_law_865 rfl ?_
    refine jJ_if_ne (pc := 867) (tgt := 882) dL_law_867 (by decide) (fun _ => ?_) (fun zz => absurd zz hec)
    refine jJ_goto (pc := 882) (tgt := 1160) dL_law_882 (by decide) ?_
    exact jJ_widen (by omega) (by omega) (kk I3 _ σ _ _ hG2)
theorem l_turn {cond : Prop} {ans ec : Int} (hz : eZ E = z) (hG : GS E C h m o c t u hb a I P σ) (hi : 0 ≤ i ∧ i + 5 < L) (hL : L ≤ 3072) (hcs : cs + 2 ≤ 601024 ∧ ss + 12 ≤ 7293034) (hec : ec ≠ 0) (hk : jCx E yX6_turn cX6_turn 6 (some FieldType.int) 100 2 [jp h, ji (xv xs (i + 1)), ji (xv xs (i + 2))] I P (kQ E C h c t u hb I P cond ans σ') (kX I P cond erB ec)) (hm : ∀ I1 P1, RfL E P1 m a → RV I1 m a σ → jC E yX7_turn cX7_turn 8 (some FieldType.int) 100 [jp m, ji (xv xs (i + 1)), ji (xv xs (i + 2))] I1 P1 (rM I1 P1 m a cond ans ec (fun J => RV J m a σ') (fun J => RV J m a σ))) (hW : cond → WV σ')
    (kk : ∀ I' P' σ'' v5 v6, GS E C h m o c t u hb a I' P' σ'' → jJ E RL cL_law 7 (some .boolean) room_1 (jLZ b L xs z) (cs + 2) (ss + 12) 1160 [some (jp b), some (jp h), some (jp m), some (jp o), some (ji i), v5, v6] [] I' P') : jJ E RL cL_law 7 (some .boolean) room_1 (jLZ b L xs z) cs ss 885 [some (jp b), some (jp h), some (jp m), some (jp o), some (ji i), l5, l6] [] I P := by
  refine jJ_aload_n (pc := 885) dL_law_885 rfl ?_
  refine jJ_arg (pc := 886) (j := 1) hz dL_law_886 dL_law_887 dL_law_889 dL_law_890 dL_law_891 rfl rfl hi hL (by decide) ?_
  refine jJ_arg (pc := 892) (j := 2) hz dL_law_892 dL_law_893 dL_law_895 dL_law_896 dL_law_897 rfl rfl hi hL (by decide) ?_
  refine jJ_aload_n (pc := 898) dL_law_898 rfl ?_
  refine jJ_callSw (pc := 899) (as := [_, _, _, _]) (d := 101) (mk := 2) (A := jNc) jLZ_eq jLZ_Nc jNc_m dL_law_899 wL_112 (Nat.le_of_ble_eq_true rfl) ⟨by decide, by decide, by show cs + 2 ≤ 601024; omega, by show ss + 6 * 2 ≤ 7293034; omega⟩ (w_turn hG.1 hG.2.2.2.2.2.1 hG.2.2.2.2.2.2.1 hk) ?_
  rintro r I1 P1 ⟨hF, hq⟩
  obtain ⟨hR1, hV1⟩ := hG.mid hF
  obtain ⟨k, rfl⟩ : ∃ k, r = some (ji k) := by rcases hq with ⟨_, rfl, _⟩ | ⟨_, rfl, _⟩ <;> exact ⟨_, rfl⟩
  refine jJ_istore (pc := 902) (ls' := [_, _, _, _, _, _, _]) dL_law_902 (Nat.le_of_ble_eq_true rfl) rfl ?_
  refine jJ_aload_n (pc := 904) dL_law_904 rfl ?_
  refine jJ_arg (pc := 905) (j := 1) hz dL_law_905 dL_law_906 dL_law_908 dL_law_909 dL_law_910 rfl rfl hi hL (by decide) ?_
  refine jJ_arg (pc := 911) (j := 2) hz dL_law_911 dL_law_912 dL_law_914 dL_law_915 dL_law_916 rfl rfl hi hL (by decide) ?_
  refine jJ_callV (pc := 917) (as := [_, _]) dL_law_917 mL_114 (jRcv_of hR1.1 rfl rfl) (Nat.le_of_ble_eq_true rfl) ⟨by decide, by decide, by show cs + 2 ≤ 601024; omega, by show ss + 6 * 2 ≤ 7293034; omega⟩ (hm I1 P1 hR1 hV1) ?_
  rintro r2 I2 P2 ⟨rfl, hRF, hr⟩
  obtain ⟨w, rfl⟩ : ∃ w, r2 = some (ji w) := hr.elim (fun zz => ⟨_, zz.2.1⟩) (fun zz => zz.2.1)
  refine jJ_istore (pc := 920) (ls' := [_, _, _, _, _, _, _]) dL_law_920 (Nat.le_of_ble_eq_true rfl) rfl ?_
  refine jJ_aload_n (pc := 922) dL_law_922 rfl ?_
  refine jJ_callV (pc := 923) (as := []) dL_law_923 mL_75 (jRcv_of hR1.1 rfl rfl) (Nat.le_of_ble_eq_true rfl) ⟨by decide, by decide, by show cs + 2 ≤ 601024; omega, by show ss + 6 * 2 ≤ 7293034; omega⟩ (r_thrown (d := 1) hR1) ?_
  rintro r3 I3 P3 ⟨rfl, rfl, rfl⟩
  refine jJ_iload (pc := 926) dL_law_926 rfl ?_
  rcases hq with ⟨hc, e1, e2, hK1⟩ | ⟨hc, e1, hK1⟩ <;> rcases hr with ⟨hc', e3, e4, hV2⟩ | ⟨hc', -, e4, hV2⟩
  · obtain ⟨hG2, eo⟩ := hG.fin hF hK1 hRF hV2 (hW hc)
    cases e1
    cases e3
    rw [e4]
    refine jJ_icmp_eq (pc := 928) (tgt := 933) dL_law_928 (by decide) (fun _ => ?_) (fun zz => absurd rfl zz)
    refine jJ_iload (pc := 933) dL_law_933 rfl ?_
    refine jJ_if_ne (pc := 935) (tgt := 950) dL_law_935 (by decide) (fun zz => absurd rfl zz) (fun _ => ?_)
    refine jJ_aload_n (pc := 938) dL_law_938 rfl ?_
    refine jJ_iconst (pc := 939) dL_law_939 (by decide) ?_
    refine jJ_lald (pc := 940) dL_law_940 hG.2.2.2.2.2.1 ⟨by decide, by decide⟩ ?_
    refine jJ_iload (pc := 941) dL_law_941 rfl ?_
    have eo2 : I3 o (Int.toNat 0) = ans := by rw [eo]; exact e2
    refine jJ_i2l (pc := 943) dL_law_943 ?_
    refine jJ_lcmp (pc := 944) dL_law_944 eo2 ?_
    refine jJ_if_eq (pc := 945) (tgt := 950) dL_law_945 (by decide) (fun _ => ?_) (fun zz => absurd rfl zz)
    refine jJ_goto (pc := 950) (tgt := 1160) dL_law_950 (by decide) ?_
    exact jJ_widen (by omega) (by omega) (kk I3 _ σ' _ _ hG2)
  · exact absurd hc hc'
  · exact absurd hc' hc
  · obtain ⟨hG2, eo⟩ := hG.fin hF hK1 hRF hV2 hG.2.2.2.1
    cases e1
    rw [e4]
    refine jJ_icmp_eq (pc := 928) (tgt := 933) dL_law_928 (by decide) (fun _ => ?_) (fun zz => absurd rfl zz)
    refine jJ_iload (pc := 933) dL_law_933 rfl ?_
    refine jJ_if_ne (pc := 935) (tgt := 950) dL_law_935 (by decide) (fun _ => ?_) (fun zz => absurd zz hec)
    refine jJ_goto (pc := 950) (tgt := 1160) dL_law_950 (by decide) ?_
    exact jJ_widen (by omega) (by omega) (kk I3 _ σ _ _ hG2)
theorem l_house {ans : Int} (hz : eZ E = z) (hG : GS E C h m o c t u hb a I P σ) (hi : 0 ≤ i ∧ i + 5 < L) (hL : L ≤ 3072) (hcs : cs + 2 ≤ 601024 ∧ ss + 12 ≤ 7293034) (hk : jC E yX6_house cX6_house 4 (some FieldType.int) 100 [jp h] I P (kQ E C h c t u hb I P True ans σ')) (hm : ∀ I1 P1, RfL E P1 m a → RV I1 m a σ → jC E yX7_house cX7_house 4 (some FieldType.int) 100 [jp m] I1 P1 (rM I1 P1 m a True ans 1 (fun J => RV J m a σ') (fun J => RV J m a σ))) (hW : WV σ')
    (kk : ∀ I' P' σ'' v5 v6, GS E C h m o c t u hb a I' P' σ'' → jJ E RL cL_law 7 (some .boolean) room_1 (jLZ b L xs z) (cs + 2) (ss + 12) 1160 [some (jp b), some (jp h), some (jp m), some (jp o), some (ji i), v5, v6] [] I' P') : jJ E RL cL_law 7 (some .boolean) room_1 (jLZ b L xs z) cs ss 953 [some (jp b), some (jp h), some (jp m), some (jp o), some (ji i), l5, l6] [] I P := by
  refine jJ_aload_n (pc := 953) dL_law_953 rfl ?_
  refine jJ_callV (pc := 954) (as := []) dL_law_954 mL_115 (jRcv_of hG.1.kh rfl rfl) (Nat.le_of_ble_eq_true rfl) ⟨by decide, by decide, by show cs ≤ 601024; omega, by show ss ≤ 7293034; omega⟩ hk ?_
  rintro r I1 P1 ⟨-, rfl, hK1, hF0⟩
  have hF : FR (fun b => C b ∨ b = o) I P I1 P1 := fun b' hb' => hF0 b' (fun z => hb' (Or.inl z))
  obtain ⟨hR1, hV1⟩ := hG.mid hF
  refine jJ_aload_n (pc := 957) dL_law_957 rfl ?_
  refine jJ_callV (pc := 958) (as := []) dL_law_958 mL_118 (jRcv_of hR1.1 rfl rfl) (Nat.le_of_ble_eq_true rfl) ⟨by decide, by decide, by show cs ≤ 601024; omega, by show ss ≤ 7293034; omega⟩ (hm I1 P1 hR1 hV1) ?_
  rintro r2 I2 P2 ⟨rfl, hRF, ⟨-, rfl, e4, hV2⟩ | ⟨hn, -⟩⟩
  · obtain ⟨hG2, -⟩ := hG.fin hF hK1 hRF hV2 hW
    refine jJ_icmp_eq (pc := 961) (tgt := 1160) dL_law_961 (by decide) (fun _ => ?_) (fun zz => absurd rfl zz)
    exact jJ_widen (by omega) (by omega) (kk I2 _ σ' l5 l6 hG2)
  · exact absurd trivial hn
theorem l_told {cond : Prop} {ans ec : Int} (hz : eZ E = z) (hG : GS E C h m o c t u hb a I P σ) (hi : 0 ≤ i ∧ i + 5 < L) (hL : L ≤ 3072) (hcs : cs + 2 ≤ 601024 ∧ ss + 12 ≤ 7293034) (hec : ec ≠ 0) (hk : jCx E yX6_told cX6_told 2 (some FieldType.int) 100 1 [jp h, ji (xv xs (i + 1))] I P (kQ E C h c t u hb I P cond ans σ') (kX I P cond erN ec)) (hm : ∀ I1 P1, RfL E P1 m a → RV I1 m a σ → jC E yX7_told cX7_told 2 (some FieldType.int) 100 [jp m, ji (xv xs (i + 1))] I1 P1 (rM I1 P1 m a cond ans ec (fun J => RV J m a σ') (fun J => RV J m a σ))) (hW : cond → WV σ')
    (kk : ∀ I' P' σ'' v5 v6, GS E C h m o c t u hb a I' P' σ'' → jJ E RL cL_law 7 (some .boolean) room_1 (jLZ b L xs z) (cs + 2) (ss + 12) 1160 [some (jp b), some (jp h), some (jp m), some (jp o), some (ji i), v5, v6] [] I' P') : jJ E RL cL_law 7 (some .boolean) room_1 (jLZ b L xs z) cs ss 966 [some (jp b), some (jp h), some (jp m), some (jp o), some (ji i), l5, l6] [] I P := by
  refine jJ_aload_n (pc := 966) dL_law_966 rfl ?_
  refine jJ_arg (pc := 967) (j := 1) hz dL_law_967 dL_law_968 dL_law_970 dL_law_971 dL_law_972 rfl rfl hi hL (by decide) ?_
  refine jJ_aload_n (pc := 973) dL_law_973 rfl ?_
  refine jJ_callSw (pc := 974) (as := [_, _, _]) (d := 101) (mk := 1) (A := jNc) jLZ_eq jLZ_Nc jNc_m dL_law_974 wL_119 (Nat.le_of_ble_eq_true rfl) ⟨by decide, by decide, by show cs + 1 ≤ 601024; omega, by show ss + 6 * 1 ≤ 7293034; omega⟩ (w_told hG.1 hG.2.2.2.2.2.1 hG.2.2.2.2.2.2.1 hk) ?_
  rintro r I1 P1 ⟨hF, hq⟩
  obtain ⟨hR1, hV1⟩ := hG.mid hF
  obtain ⟨k, rfl⟩ : ∃ k, r = some (ji k) := by rcases hq with ⟨_, rfl, _⟩ | ⟨_, rfl, _⟩ <;> exact ⟨_, rfl⟩
  refine jJ_istore (pc := 977) (ls' := [_, _, _, _, _, _, _]) dL_law_977 (Nat.le_of_ble_eq_true rfl) rfl ?_
  refine jJ_aload_n (pc := 979) dL_law_979 rfl ?_
  refine jJ_arg (pc := 980) (j := 1) hz dL_law_980 dL_law_981 dL_law_983 dL_law_984 dL_law_985 rfl rfl hi hL (by decide) ?_
  refine jJ_callV (pc := 986) (as := [_]) dL_law_986 mL_121 (jRcv_of hR1.1 rfl rfl) (Nat.le_of_ble_eq_true rfl) ⟨by decide, by decide, by show cs + 1 ≤ 601024; omega, by show ss + 6 * 1 ≤ 7293034; omega⟩ (hm I1 P1 hR1 hV1) ?_
  rintro r2 I2 P2 ⟨rfl, hRF, hr⟩
  obtain ⟨w, rfl⟩ : ∃ w, r2 = some (ji w) := hr.elim (fun zz => ⟨_, zz.2.1⟩) (fun zz => zz.2.1)
  refine jJ_istore (pc := 989) (ls' := [_, _, _, _, _, _, _]) dL_law_989 (Nat.le_of_ble_eq_true rfl) rfl ?_
  refine jJ_aload_n (pc := 991) dL_law_991 rfl ?_
  refine jJ_callV (pc := 992) (as := []) dL_law_992 mL_75 (jRcv_of hR1.1 rfl rfl) (Nat.le_of_ble_eq_true rfl) ⟨by decide, by decide, by show cs + 1 ≤ 601024; omega, by show ss + 6 * 1 ≤ 7293034; omega⟩ (r_thrown (d := 1) hR1) ?_
  rintro r3 I3 P3 ⟨rfl, rfl, rfl⟩
  refine jJ_iload (pc := 995) dL_law_995 rfl ?_
  rcases hq with ⟨hc, e1, e2, hK1⟩ | ⟨hc, e1, hK1⟩ <;> rcases hr with ⟨hc', e3, e4, hV2⟩ | ⟨hc', -, e4, hV2⟩
  · obtain ⟨hG2, eo⟩ := hG.fin hF hK1 hRF hV2 (hW hc)
    cases e1
    cases e3
    rw [e4]
    refine jJ_icmp_eq (pc := 997) (tgt := 1002) dL_law_997 (by decide) (fun _ => ?_) (fun zz => absurd rfl zz)
    refine jJ_iload (pc := 1002) dL_law_1002 rfl ?_
    refine jJ_if_ne (pc := 1004) (tgt := 1019) dL_law_1004 (by decide) (fun zz => absurd rfl zz) (fun _ => ?_)
    refine jJ_aload_n (pc := 1007) dL_law_1007 rfl ?_
    refine jJ_iconst (pc := 1008) dL_law_1008 (by decide) ?_
    refine jJ_lald (pc := 1009) dL_law_1009 hG.2.2.2.2.2.1 ⟨by decide, by decide⟩ ?_
    refine jJ_iload (pc := 1010) dL_law_1010 rfl ?_
    have eo2 : I3 o (Int.toNat 0) = ans := by rw [eo]; exact e2
    refine jJ_i2l (pc := 1012) dL_law_1012 ?_
    refine jJ_lcmp (pc := 1013) dL_law_1013 eo2 ?_
    refine jJ_if_eq (pc := 1014) (tgt := 1019) dL_law_1014 (by decide) (fun _ => ?_) (fun zz => absurd rfl zz)
    refine jJ_goto (pc := 1019) (tgt := 1160) dL_law_1019 (by decide) ?_
    exact jJ_widen (by omega) (by omega) (kk I3 _ σ' _ _ hG2)
  · exact absurd hc hc'
  · exact absurd hc' hc
  · obtain ⟨hG2, eo⟩ := hG.fin hF hK1 hRF hV2 hG.2.2.2.1
    cases e1
    rw [e4]
    refine jJ_icmp_eq (pc := 997) (tgt := 1002) dL_law_997 (by decide) (fun _ => ?_) (fun zz => absurd rfl zz)
    refine jJ_iload (pc := 1002) dL_law_1002 rfl ?_
    refine jJ_if_ne (pc := 1004) (tgt := 1019) dL_law_1004 (by decide) (fun _ => ?_) (fun zz => absurd zz hec)
    refine jJ_goto (pc := 1019) (tgt := 1160) dL_law_1019 (by decide) ?_
    exact jJ_widen (by omega) (by omega) (kk I3 _ σ _ _ hG2)
theorem l_take {cond : Prop} {ans ec : Int} (hz : eZ E = z) (hG : GS E C h m o c t u hb a I P σ) (hi : 0 ≤ i ∧ i + 5 < L) (hL : L ≤ 3072) (hcs : cs + 2 ≤ 601024 ∧ ss + 12 ≤ 7293034) (hec : ec ≠ 0) (hk : jCx E yX6_take cX6_take 3 (some FieldType.boolean) 100 1 [jp h, ji (xv xs (i + 1))] I P (kQ E C h c t u hb I P cond ans σ') (kX I P cond erN ec)) (hm : ∀ I1 P1, RfL E P1 m a → RV I1 m a σ → jC E yX7_take cX7_take 5 (some FieldType.boolean) 100 [jp m, ji (xv xs (i + 1))] I1 P1 (rM I1 P1 m a cond ans ec (fun J => RV J m a σ') (fun J => RV J m a σ))) (hW : cond → WV σ') (h01 : cond → ans = 0 ∨ ans = 1)
    (kk : ∀ I' P' σ'' v5 v6, GS E C h m o c t u hb a I' P' σ'' → jJ E RL cL_law 7 (some .boolean) room_1 (jLZ b L xs z) (cs + 2) (ss + 12) 1160 [some (jp b), some (jp h), some (jp m), some (jp o), some (ji i), v5, v6] [] I' P') : jJ E RL cL_law 7 (some .boolean) room_1 (jLZ b L xs z) cs ss 1022 [some (jp b), some (jp h), some (jp m), some (jp o), some (ji i), l5, l6] [] I P := by
  refine jJ_aload_n (pc := 1022) dL_law_1022 rfl ?_
  refine jJ_arg (pc := 1023) (j := 1) hz dL_law_1023 dL_law_1024 dL_law_1026 dL_law_1027 dL_law_1028 rfl rfl hi hL (by decide) ?_
  refine jJ_aload_n (pc := 1029) dL_law_1029 rfl ?_
  refine jJ_callSw (pc := 1030) (as := [_, _, _]) (d := 101) (mk := 1) (A := jNc) jLZ_eq jLZ_Nc jNc_m dL_law_1030 wL_122 (Nat.le_of_ble_eq_true rfl) ⟨by decide, by decide, by show cs + 1 ≤ 601024; omega, by show ss + 6 * 1 ≤ 7293034; omega⟩ (w_take hG.1 hG.2.2.2.2.2.1 hG.2.2.2.2.2.2.1 hk h01) ?_
  rintro r I1 P1 ⟨hF, hq⟩
  obtain ⟨hR1, hV1⟩ := hG.mid hF
  obtain ⟨k, rfl⟩ : ∃ k, r = some (ji k) := by rcases hq with ⟨_, rfl, _⟩ | ⟨_, rfl, _⟩ <;> exact ⟨_, rfl⟩
  refine jJ_istore (pc := 1033) (ls' := [_, _, _, _, _, _, _]) dL_law_1033 (Nat.le_of_ble_eq_true rfl) rfl ?_
  refine jJ_aload_n (pc := 1035) dL_law_1035 rfl ?_
  refine jJ_arg (pc := 1036) (j := 1) hz dL_law_1036 dL_law_1037 dL_law_1039 dL_law_1040 dL_law_1041 rfl rfl hi hL (by decide) ?_
  refine jJ_callV (pc := 1042) (as := [_]) dL_law_1042 mL_124 (jRcv_of hR1.1 rfl rfl) (Nat.le_of_ble_eq_true rfl) ⟨by decide, by decide, by show cs + 1 ≤ 601024; omega, by show ss + 6 * 1 ≤ 7293034; omega⟩ (hm I1 P1 hR1 hV1) ?_
  rintro r2 I2 P2 ⟨rfl, hRF, hr⟩
  obtain ⟨w, rfl⟩ : ∃ w, r2 = some (ji w) := hr.elim (fun zz => ⟨_, zz.2.1⟩) (fun zz => zz.2.1)
  refine jJ_istore (pc := 1045) (ls' := [_, _, _, _, _, _, _]) dL_law_1045 (Nat.le_of_ble_eq_true rfl) rfl ?_
  refine jJ_aload_n (pc := 1047) dL_law_1047 rfl ?_
  refine jJ_callV (pc := 1048) (as := []) dL_law_1048 mL_75 (jRcv_of hR1.1 rfl rfl) (Nat.le_of_ble_eq_true rfl) ⟨by decide, by decide, by show cs + 1 ≤ 601024; omega, by show ss + 6 * 1 ≤ 7293034; omega⟩ (r_thrown (d := 1) hR1) ?_
  rintro r3 I3 P3 ⟨rfl, rfl, rfl⟩
  refine jJ_iload (pc := 1051) dL_law_1051 rfl ?_
  rcases hq with ⟨hc, e1, e2, hK1⟩ | ⟨hc, e1, hK1⟩ <;> rcases hr with ⟨hc', e3, e4, hV2⟩ | ⟨hc', -, e4, hV2⟩
  · obtain ⟨hG2, eo⟩ := hG.fin hF hK1 hRF hV2 (hW hc)
    cases e1
    cases e3
    rw [e4]
    refine jJ_icmp_eq (pc := 1053) (tgt := 1058) dL_law_1053 (by decide) (fun _ => ?_) (fun zz => absurd rfl zz)
    refine jJ_iload (pc := 1058) dL_law_1058 rfl ?_
    refine jJ_if_ne (pc := 1060) (tgt := 1082) dL_law_1060 (by decide) (fun zz => absurd rfl zz) (fun _ => ?_)
    refine jJ_aload_n (pc := 1063) dL_law_1063 rfl ?_
    refine jJ_iconst (pc := 1064) dL_law_1064 (by decide) ?_
    refine jJ_lald (pc := 1065) dL_law_1065 hG.2.2.2.2.2.1 ⟨by decide, by decide⟩ ?_
    refine jJ_iload (pc := 1066) dL_law_1066 rfl ?_
    have eo2 : I3 o (Int.toNat 0) = ans := by rw [eo]; exact e2
    refine jJ_if_eq (pc := 1068) (tgt := 1075) dL_law_1068 (by decide) (fun c0 => ?_) (fun c0 => ?_)
    · rw [c0] at eo2
      refine jJ_lconst (pc := 1075) (v := 0) dL_law_1075 (by decide) (by decide) ?_
      refine jJ_lcmp (pc := 1076) dL_law_1076 eo2 ?_
      refine jJ_if_eq (pc := 1077) (tgt := 1082) dL_law_1077 (by decide) (fun _ => ?_) (fun zz => absurd rfl zz)
      refine jJ_goto (pc := 1082) (tgt := 1160) dL_law_1082 (by decide) ?_
      exact jJ_widen (by omega) (by omega) (kk I3 _ σ' _ _ hG2)
    · rw [(h01 hc).resolve_left c0] at eo2
      refine jJ_lconst (pc := 1071) (v := 1) dL_law_1071 (by decide) (by decide) ?_
      refine jJ_goto (pc := 1072) (tgt := 1076) dL_law_1072 (by decide) ?_
      refine jJ_lcmp (pc := 1076) dL_law_1076 eo2 ?_
      refine jJ_if_eq (pc := 1077) (tgt := 1082) dL_law_1077 (by decide) (fun _ => ?_) (fun zz => absurd rfl zz)
      refine jJ_goto (pc := 1082) (tgt := 1160) dL_law_1082 (by decide) ?_
      exact jJ_widen (by omega) (by omega) (kk I3 _ σ' _ _ hG2)
  · exact absurd hc hc'
  · exact absurd hc' hc
  · obtain ⟨hG2, eo⟩ := hG.fin hF hK1 hRF hV2 hG.2.2.2.1
    cases e1
    rw [e4]
    refine jJ_icmp_eq (pc := 1053) (tgt := 1058) dL_law_1053 (by decide) (fun _ => ?_) (fun zz => absurd rfl zz)
    refine jJ_iload (pc := 1058) dL_law_1058 rfl ?_
    refine jJ_if_ne (pc := 1060) (tgt := 1082) dL_law_1060 (by decide) (fun _ => ?_) (fun zz => absurd zz hec)
    refine jJ_goto (pc := 1082) (tgt := 1160) dL_law_1082 (by decide) ?_
    exact jJ_widen (by omega) (by omega) (kk I3 _ σ _ _ hG2)
theorem l_alike {cond : Prop} {ans ec : Int} (hz : eZ E = z) (hG : GS E C h m o c t u hb a I P σ) (hi : 0 ≤ i ∧ i + 5 < L) (hL : L ≤ 3072) (hcs : cs + 2 ≤ 601024 ∧ ss + 12 ≤ 7293034) (hec : ec ≠ 0) (hk : jCx E yX6_alike cX6_alike 6 (some FieldType.boolean) 100 2 [jp h, ji (xv xs (i + 1)), ji (xv xs (i + 2))] I P (kQ E C h c t u hb I P cond ans σ') (kX I P cond erN ec)) (hm : ∀ I1 P1, RfL E P1 m a → RV I1 m a σ → jC E yX7_alike cX7_alike 5 (some FieldType.boolean) 100 [jp m, ji (xv xs (i + 1)), ji (xv xs (i + 2))] I1 P1 (rM I1 P1 m a cond ans ec (fun J => RV J m a σ') (fun J => RV J m a σ))) (hW : cond → WV σ') (h01 : cond → ans = 0 ∨ ans = 1)
    (kk : ∀ I' P' σ'' v5 v6, GS E C h m o c t u hb a I' P' σ'' → jJ E RL cL_law 7 (some .boolean) room_1 (jLZ b L xs z) (cs + 2) (ss + 12) 1160 [some (jp b), some (jp h), some (jp m), some (jp o), some (ji i), v5, v6] [] I' P') : jJ E RL cL_law 7 (some .boolean) room_1 (jLZ b L xs z) cs ss 1085 [some (jp b), some (jp h), some (jp m), some (jp o), some (ji i), l5, l6] [] I P := by
  refine jJ_aload_n (pc := 1085) dL_law_1085 rfl ?_
  refine jJ_arg (pc := 1086) (j := 1) hz dL_law_1086 dL_law_1087 dL_law_1089 dL_law_1090 dL_law_1091 rfl rfl hi hL (by decide) ?_
  refine jJ_arg (pc := 1092) (j := 2) hz dL_law_1092 dL_law_1093 dL_law_1095 dL_law_1096 dL_law_1097 rfl rfl hi hL (by decide) ?_
  refine jJ_aload_n (pc := 1098) dL_law_1098 rfl ?_
  refine jJ_callSw (pc := 1099) (as := [_, _, _, _]) (d := 101) (mk := 2) (A := jNc) jLZ_eq jLZ_Nc jNc_m dL_law_1099 wL_125 (Nat.le_of_ble_eq_true rfl) ⟨by decide, by decide, by show cs + 2 ≤ 601024; omega, by show ss + 6 * 2 ≤ 7293034; omega⟩ (w_alike hG.1 hG.2.2.2.2.2.1 hG.2.2.2.2.2.2.1 hk h01) ?_
  rintro r I1 P1 ⟨hF, hq⟩
  obtain ⟨hR1, hV1⟩ := hG.mid hF
  obtain ⟨k, rfl⟩ : ∃ k, r = some (ji k) := by rcases hq with ⟨_, rfl, _⟩ | ⟨_, rfl, _⟩ <;> exact ⟨_, rfl⟩
  refine jJ_istore (pc := 1102) (ls' := [_, _, _, _, _, _, _]) dL_law_1102 (Nat.le_of_ble_eq_true rfl) rfl ?_
  refine jJ_aload_n (pc := 1104) dL_law_1104 rfl ?_
  refine jJ_arg (pc := 1105) (j := 1) hz dL_law_1105 dL_law_1106 dL_law_1108 dL_law_1109 dL_law_1110 rfl rfl hi hL (by decide) ?_
  refine jJ_arg (pc := 1111) (j := 2) hz dL_law_1111 dL_law_1112 dL_law_1114 dL_law_1115 dL_law_1116 rfl rfl hi hL (by decide) ?_
  refine jJ_callV (pc := 1117) (as := [_, _]) dL_law_1117 mL_127 (jRcv_of hR1.1 rfl rfl) (Nat.le_of_ble_eq_true rfl) ⟨by decide, by decide, by show cs + 2 ≤ 601024; omega, by show ss + 6 * 2 ≤ 7293034; omega⟩ (hm I1 P1 hR1 hV1) ?_
  rintro r2 I2 P2 ⟨rfl, hRF, hr⟩
  obtain ⟨w, rfl⟩ : ∃ w, r2 = some (ji w) := hr.elim (fun zz => ⟨_, zz.2.1⟩) (fun zz => zz.2.1)
  refine jJ_istore (pc := 1120) (ls' := [_, _, _, _, _, _, _]) dL_law_1120 (Nat.le_of_ble_eq_true rfl) rfl ?_
  refine jJ_aload_n (pc := 1122) dL_law_1122 rfl ?_
  refine jJ_callV (pc := 1123) (as := []) dL_law_1123 mL_75 (jRcv_of hR1.1 rfl rfl) (Nat.le_of_ble_eq_true rfl) ⟨by decide, by decide, by show cs + 2 ≤ 601024; omega, by show ss + 6 * 2 ≤ 7293034; omega⟩ (r_thrown (d := 1) hR1) ?_
  rintro r3 I3 P3 ⟨rfl, rfl, rfl⟩
  refine jJ_iload (pc := 1126) dL_law_1126 rfl ?_
  rcases hq with ⟨hc, e1, e2, hK1⟩ | ⟨hc, e1, hK1⟩ <;> rcases hr with ⟨hc', e3, e4, hV2⟩ | ⟨hc', -, e4, hV2⟩
  · obtain ⟨hG2, eo⟩ := hG.fin hF hK1 hRF hV2 (hW hc)
    cases e1
    cases e3
    rw [e4]
    refine jJ_icmp_eq (pc := 1128) (tgt := 1133) dL_law_1128 (by decide) (fun _ => ?_) (fun zz => absurd rfl zz)
    refine jJ_iload (pc := 1133) dL_law_1133 rfl ?_
    refine jJ_if_ne (pc := 1135) (tgt := 1157) dL_law_1135 (by decide) (fun zz => absurd rfl zz) (fun _ => ?_)
    refine jJ_aload_n (pc := 1138) dL_law_1138 rfl ?_
    refine jJ_iconst (pc := 1139) dL_law_1139 (by decide) ?_
    refine jJ_lald (pc := 1140) dL_law_1140 hG.2.2.2.2.2.1 ⟨by decide, by decide⟩ ?_
    refine jJ_iload (pc := 1141) dL_law_1141 rfl ?_
    have eo2 : I3 o (Int.toNat 0) = ans := by rw [eo]; exact e2
    refine jJ_if_eq (pc := 1143) (tgt := 1150) dL_law_1143 (by decide) (fun c0 => ?_) (fun c0 => ?_)
    · rw [c0] at eo2
      refine jJ_lconst (pc := 1150) (v := 0) dL_law_1150 (by decide) (by decide) ?_
      refine jJ_lcmp (pc := 1151) dL_law_1151 eo2 ?_
      refine jJ_if_eq (pc := 1152) (tgt := 1157) dL_law_1152 (by decide) (fun _ => ?_) (fun zz => absurd rfl zz)
      refine jJ_goto (pc := 1157) (tgt := 1160) dL_law_1157 (by decide) ?_
      exact jJ_widen (by omega) (by omega) (kk I3 _ σ' _ _ hG2)
    · rw [(h01 hc).resolve_left c0] at eo2
      refine jJ_lconst (pc := 1146) (v := 1) dL_law_1146 (by decide) (by decide) ?_
      refine jJ_goto (pc := 1147) (tgt := 1151) dL_law_1147 (by decide) ?_
      refine jJ_lcmp (pc := 1151) dL_law_1151 eo2 ?_
      refine jJ_if_eq (pc := 1152) (tgt := 1157) dL_law_1152 (by decide) (fun _ => ?_) (fun zz => absurd rfl zz)
      refine jJ_goto (pc := 1157) (tgt := 1160) dL_law_1157 (by decide) ?_
      exact jJ_widen (by omega) (by omega) (kk I3 _ σ' _ _ hG2)
  · exact absurd hc hc'
  · exact absurd hc' hc
  · obtain ⟨hG2, eo⟩ := hG.fin hF hK1 hRF hV2 hG.2.2.2.1
    cases e1
    rw [e4]
    refine jJ_icmp_eq (pc := 1128) (tgt := 1133) dL_law_1128 (by decide) (fun _ => ?_) (fun zz => absurd rfl zz)
    refine jJ_iload (pc := 1133) dL_law_1133 rfl ?_
    refine jJ_if_ne (pc := 1135) (tgt := 1157) dL_law_1135 (by decide) (fun _ => ?_) (fun zz => absurd zz hec)
    refine jJ_goto (pc := 1157) (tgt := 1160) dL_law_1157 (by decide) ?_
    exact jJ_widen (by omega) (by omega) (kk I3 _ σ _ _ hG2)
end JCa
