section JRZ
variable {E : jE} {I : jI} {P : jP} {m n d : Nat} {a : Nat → Nat} {fk fp : Int} {s r : Nat → Int} {ts : List T5}
theorem g_statement_of {L : Nat} (hR : RfL E P m a) (hn : I (a 7) 12 = (n : Int)) (hn2 : n ≤ 800) (hg : ∀ k, k < n → 0 ≤ gB I a k ∧ gB I a k ≤ 255) (hp : BlkP E I P m n a fk fp L) : StmP E I P m n a fk fp L := by
  intro s r ts d hO h4 hr0 hr1 h125 h8 hL hd
  have h401 : s 4 = 0 ∨ s 4 = 1 := h4.imp id (fun z => z.1)
  have t0 := std_0 (u := scS (gB I a) n s) (r := r) h401
  have h01 := hO.1.1
  have h6 := hO.1.2.2.1
  have hl := hO.2
  have e10 : ∀ σ : Nat → Int, rfM I m a σ ts (a 10) ((12 : Int).toNat) = σ 10 := fun σ => rfM_10 hR
  have p10 : ∀ v : Int, jput (rfM I m a (mS (gB I a) n fk fp s) ts) (a 10) ((12 : Int).toNat) v = rfM I m a (su (mS (gB I a) n fk fp s) 10 v) ts := fun v => rfM_p10 hR
  have m10 : mS (gB I a) n fk fp s 10 = s 6 := rfl
  refine jC_intro (by decide +kernel) (by simp [jc, va_rf, Value.category]) (Nat.le_of_ble_eq_true rfl) ?_
  refine jJ_aload_n (pc := 0) dX7_statement_0 rfl ?_
  refine jJ_ldcS (pc := 1) (i := 3) dX7_statement_1 (by decide +kernel) ?_
  refine jJ_callVd (pc := 3) (as := [_]) dX7_statement_3 mX7_132 (jRcv_of hR.1 rfl rfl) (Nat.le_of_ble_eq_true rfl) (jRm_ok (by omega) (by decide)) (r_isT (d := d - 1) (c := 6) (j := (s 9).toNat) hR hn hn2 (by decide) (by decide) rfl rfl rfl (by omega)) ?_
  refine jJ_if_eq (pc := 6) (tgt := 25) dX7_statement_6 (by decide) (fun c6 => ?_) (fun c6 => ?_)
  · simp only [jb_z] at c6
    refine jJ_aload_n (pc := 25) dX7_statement_25 rfl ?_
    refine jJ_ldcS (pc := 26) (i := 2) dX7_statement_26 (by decide +kernel) ?_
    refine jJ_callVd (pc := 28) (as := [_]) dX7_statement_28 mX7_132 (jRcv_of hR.1 rfl rfl) (Nat.le_of_ble_eq_true rfl) (jRm_ok (by omega) (by decide)) (r_isT (d := d - 1) (c := 5) (j := (s 9).toNat) hR hn hn2 (by decide) (by decide) rfl rfl rfl (by omega)) ?_
    refine jJ_if_eq (pc := 31) (tgt := 75) dX7_statement_31 (by decide) (fun c31 => ?_) (fun c31 => ?_)
    · simp only [jb_z] at c31
      refine jJ_aload_n (pc := 75) dX7_statement_75 rfl ?_
      refine jJ_ldcS (pc := 76) (i := 0) dX7_statement_76 (by decide +kernel) ?_
      refine jJ_callVd (pc := 78) (as := [_]) dX7_statement_78 mX7_132 (jRcv_of hR.1 rfl rfl) (Nat.le_of_ble_eq_true rfl) (jRm_ok (by omega) (by decide)) (r_isT (d := d - 1) (c := 3) (j := (s 9).toNat) hR hn hn2 (by decide) (by decide) rfl rfl rfl (by omega)) ?_
      refine jJ_if_eq (pc := 81) (tgt := 152) dX7_statement_81 (by decide) (fun c81 => ?_) (fun c81 => ?_)
      · simp only [jb_z] at c81
        refine jJ_aload_n (pc := 152) dX7_statement_152 rfl ?_
        refine jJ_callVd (pc := 153) (as := []) dX7_statement_153 mX7_169 (jRcv_of hR.1 rfl rfl) (Nat.le_of_ble_eq_true rfl) (jRm_ok (by omega) (by decide)) (r_isName (d := d - 1) (j := (s 9).toNat) hR hn hn2 rfl rfl rfl (by omega)) ?_
        refine jJ_if_ne (pc := 156) (tgt := 165) dX7_statement_156 (by decide) (fun c156 => ?_) (fun c156 => ?_)
        · simp only [jb_nz] at c156
          have tm := stm_1 (u := scS (gB I a) n s) (r := r) c156
          rw [tm.1, tm.2] at t0
          refine jJ_aload_n (pc := 165) dX7_statement_165 rfl ?_
          refine jJ_getr (pc := 166) dX7_statement_166 fX7_33 rfl hR.1 hR.p10 ?_
          try simp only [e10, p10, m10]
          refine jJ_bipush (pc := 169) dX7_statement_169 (by decide) ?_
          refine jJ_dup2 (pc := 171) dX7_statement_171 rfl rfl ?_
          refine jJ_iald (pc := 172) dX7_statement_172 hR.a10 ⟨by omega, by omega⟩ ?_
          try simp only [e10, p10, m10]
          refine jJ_iconst (pc := 173) dX7_statement_173 (by decide) ?_
          refine jJ_iadd (pc := 174) dX7_statement_174 ⟨by omega, by omega⟩ ?_
          refine jJ_iast (pc := 175) dX7_statement_175 hR.a10 ⟨by omega, by omega⟩ ?_
          try simp only [e10, p10, m10]
          refine jJ_aload_n (pc := 176) dX7_statement_176 rfl ?_
          refine jJ_iconst (pc := 177) dX7_statement_177 (by decide) ?_
          refine jJ_callG (pc := 178) (as := [_]) dX7_statement_178 mX7_166 (jRcv_of hR.1 rfl rfl) (Nat.le_of_ble_eq_true rfl) (jRm_ok (by omega) (by decide)) (g_own (r := r) (x := 0) (v := 2) (d := d - 1) hR hn hn2 hg hO t0.1 t0.2.1 (by omega)) (fun sw rw tsw ew ow hw => ?_) (fun σw tfw fw => ?_)
          · refine jJ_if_eq (pc := 181) (tgt := 216) dX7_statement_181 (by decide) (fun c181 => ?_) (fun c181 => ?_)
            · exact absurd c181 (by decide)
            · obtain ⟨q2, q3, q4⟩ := hw
              rw [t0.2.1] at q2
              rw [t0.2.2] at q3
              have w1 : sw 1 = s 1 := by rw [q2]; rfl
              have w2 : sw 2 = s 2 := by rw [q2]; rfl
              have w4 : sw 4 = 2 := by rw [q2]; rfl
              have w5 : sw 5 = 0 := by rw [q2]; rfl
              have wl : tsw.length = ts.length + 1 := by rw [q4]; exact len_app
              have t2 := std_2 (u := scS (gB I a) n sw) (r := rw) w4
              refine jJ_aload_n (pc := 184) dX7_statement_184 rfl ?_
              refine jJ_ldcS (pc := 185) (i := 14) dX7_statement_185 (by decide +kernel) ?_
              refine jJ_iconst (pc := 187) dX7_statement_187 (by decide) ?_
              refine jJ_callG (pc := 188) (as := [_, _]) dX7_statement_188 mX7_172 (jRcv_of hR.1 rfl rfl) (Nat.le_of_ble_eq_true rfl) (jRm_ok (by omega) (by decide)) (g_need (r := rw) (c := 61) (d := d - 1) hR hn hn2 hg (by decide) (by decide) rfl ow (fun z => by rw [t2.1, t2.2.1, if_pos (show scS (gB I a) n sw 10 = 61 from z), ← jb_t (show scS (gB I a) n sw 10 = 61 from z)]; exact ⟨by decide, w5, rfl⟩) (fun z => by rw [t2.1, ← jb_f (show ¬ scS (gB I a) n sw 10 = 61 from z)]) (by omega) (by omega)) (fun sx rx tsx ex ox hx => ?_) (fun σx tfx fx => ?_)
              · refine jJ_if_eq (pc := 191) (tgt := 216) dX7_statement_191 (by decide) (fun c191 => ?_) (fun c191 => ?_)
                · exact absurd c191 (by decide)
                · obtain ⟨gx, q5, q6, q7⟩ := hx
                  rw [t2.2.1, if_pos (show scS (gB I a) n sw 10 = 61 from gx)] at q5
                  rw [t2.2.2] at q6
                  have x1 : sx 1 = s 1 := by rw [q5]; exact w1
                  have x2 : sx 2 = s 2 := by rw [q5]; exact w2
                  have x4 : sx 4 = 6 := by rw [q5]; rfl
                  have x5 : sx 5 = 0 := by rw [q5]; exact w5
                  have xl : tsx.length = tsw.length + 1 := by rw [q7]; exact len_app
                  refine jJ_aload_n (pc := 194) dX7_statement_194 rfl ?_
                  refine jJ_iconst (pc := 195) dX7_statement_195 (by decide) ?_
                  refine jJ_callG (pc := 196) (as := [_]) dX7_statement_196 mX7_176 (jRcv_of hR.1 rfl rfl) (Nat.le_of_ble_eq_true rfl) (jRm_ok (by omega) (by decide)) (g_expr hR hn hn2 hg 6 sx rx tsx (d - 1) 0 x5 ox (Or.inl x4) (by omega) (by omega)) (fun sy ry tsy ey oy hy => ?_) (fun σy tfy fy => ?_)
                  · refine jJ_if_eq (pc := 199) (tgt := 216) dX7_statement_199 (by decide) (fun c199 => ?_) (fun c199 => ?_)
                    · exact absurd c199 (by decide)
                    · obtain ⟨⟨b4, b1, b2, b5, b6, bj, bl⟩, bo⟩ := hy
                      have yk : ∀ j : Nat, (j : Int) < s 1 → ry j = r j := fun j hj => by rw [bj j (by omega), q6, q3]
                      have yr : rInner sy ry = rInner s r := rInner_cg (by omega) yk
                      have t7 := std_7 (u := scS (gB I a) n sy) (r := ry) b4
                      have tg := go_nm (u := scS (gB I a) n sy) (r := ry) bo (by rw [rInner_sc, yr]; exact hr0) (by rw [rInner_sc, yr]; exact hr1) (b5.trans x5)
                      rw [tg.1, tg.2.1, tg.2.2] at t7
                      refine jJ_aload_n (pc := 202) dX7_statement_202 rfl ?_
                      refine jJ_ldcS (pc := 203) (i := 13) dX7_statement_203 (by decide +kernel) ?_
                      refine jJ_iconst (pc := 205) dX7_statement_205 (by decide) ?_
                      refine jJ_callG (pc := 206) (as := [_, _]) dX7_statement_206 mX7_172 (jRcv_of hR.1 rfl rfl) (Nat.le_of_ble_eq_true rfl) (jRm_ok (by omega) (by decide)) (g_need (r := ry) (c := 59) (d := d - 1) hR hn hn2 hg (by decide) (by decide) rfl oy (fun z => by rw [t7.1, t7.2.1, if_pos (show scS (gB I a) n sy 10 = 59 from z), ← jb_t (show scS (gB I a) n sy 10 = 59 from z)]; exact ⟨by decide, b5.trans x5, rfl⟩) (fun z => by rw [t7.1, ← jb_f (show ¬ scS (gB I a) n sy 10 = 59 from z)]) (by omega) (by omega)) (fun sz rz tsz ez oz hz => ?_) (fun σz tfz fz => ?_)
                      · refine jJ_if_eq (pc := 209) (tgt := 216) dX7_statement_209 (by decide) (fun c209 => ?_) (fun c209 => ?_)
                        · exact absurd c209 (by decide)
                        · obtain ⟨gz, z2, z3, z4⟩ := hz
                          rw [t7.2.1, if_pos (show scS (gB I a) n sy 10 = 59 from gz)] at z2
                          rw [t7.2.2] at z3
                          refine jJ_iconst (pc := 212) dX7_statement_212 (by decide) ?_
                          refine jJ_goto (pc := 213) (tgt := 217) dX7_statement_213 (by decide) ?_
                          refine jJ_zret (pc := 217) dX7_statement_217 rfl (Or.inr rfl) ?_
                          refine GQ_ok (ew.trans (ex.trans (ey.trans ez))) oz ⟨Or.inl (by rw [z2]; rfl), by rw [z2]; show sy 1 = s 1; omega, by rw [z2]; show sy 2 = s 2; omega, fun j hj => by rw [z3]; exact yk j hj, by rw [z4, len_app]; omega⟩
                      · refine jJ_if_eq (pc := 209) (tgt := 216) dX7_statement_209 (by decide) (fun c209 => ?_) (fun c209 => ?_)
                        · refine jJ_iconst (pc := 216) dX7_statement_216 (by decide) ?_
                          refine jJ_zret (pc := 217) dX7_statement_217 rfl (Or.inl rfl) ?_
                          exact GQ_fail (ew.trans (ex.trans ey)) fz
                        · exact absurd rfl c209
                  · refine jJ_if_eq (pc := 199) (tgt := 216) dX7_statement_199 (by decide) (fun c199 => ?_) (fun c199 => ?_)
                    · refine jJ_iconst (pc := 216) dX7_statement_216 (by decide) ?_
                      refine jJ_zret (pc := 217) dX7_statement_217 rfl (Or.inl rfl) ?_
                      exact GQ_fail (ew.trans ex) fy
                    · exact absurd rfl c199
              · refine jJ_if_eq (pc := 191) (tgt := 216) dX7_statement_191 (by decide) (fun c191 => ?_) (fun c191 => ?_)
                · refine jJ_iconst (pc := 216) dX7_statement_216 (by decide) ?_
                  refine jJ_zret (pc := 217) dX7_statement_217 rfl (Or.inl rfl) ?_
                  exact GQ_fail ew fx
                · exact absurd rfl c191
          · refine jJ_if_eq (pc := 181) (tgt := 216) dX7_statement_181 (by decide) (fun c181 => ?_) (fun c181 => ?_)
            · refine jJ_iconst (pc := 216) dX7_statement_216 (by decide) ?_
              refine jJ_zret (pc := 217) dX7_statement_217 rfl (Or.inl rfl) ?_
              exact GQ_fail rfl fw
            · exact absurd rfl c181
        · simp only [jb_z] at c156
          refine jJ_aload_n (pc := 159) dX7_statement_159 rfl ?_
          refine jJ_iconst (pc := 160) dX7_statement_160 (by decide) ?_
          refine jJ_callG (pc := 161) (as := [_]) dX7_statement_161 mX7_146 (jRcv_of hR.1 rfl rfl) (Nat.le_of_ble_eq_true rfl) (jRm_ok (by omega) (by decide)) (g_wrong (d := d - 1) (r := r) (Sh := fun _ _ _ => False) hR hO (by rw [t0.1]; exact stm_no c156 c6 c81 c31 (fun z => by rw [sc4]; have z' : tkG (gB I a) n (s 9).toNat = 4 := z; omega) h125) (fun z => by have := h8 z; omega)) (fun sw rw tsw ew ow hw => ?_) (fun σw tfw fw => ?_)
          · exact absurd hw id
          · refine jJ_zret (pc := 164) dX7_statement_164 rfl (Or.inl rfl) ?_
            exact GQ_fail rfl fw
      · simp only [jb_nz] at c81
        have tm := stm_3 (u := scS (gB I a) n s) (r := r) c81
        rw [tm.1, tm.2] at t0
        refine jJ_aload_n (pc := 84) dX7_statement_84 rfl ?_
        refine jJ_getr (pc := 85) dX7_statement_85 fX7_33 rfl hR.1 hR.p10 ?_
        try simp only [e10, p10, m10]
        refine jJ_bipush (pc := 88) dX7_statement_88 (by decide) ?_
        refine jJ_dup2 (pc := 90) dX7_statement_90 rfl rfl ?_
        refine jJ_iald (pc := 91) dX7_statement_91 hR.a10 ⟨by omega, by omega⟩ ?_
        try simp only [e10, p10, m10]
        refine jJ_iconst (pc := 92) dX7_statement_92 (by decide) ?_
        refine jJ_iadd (pc := 93) dX7_statement_93 ⟨by omega, by omega⟩ ?_
        refine jJ_iast (pc := 94) dX7_statement_94 hR.a10 ⟨by omega, by omega⟩ ?_
        try simp only [e10, p10, m10]
        refine jJ_aload_n (pc := 95) dX7_statement_95 rfl ?_
        refine jJ_iconst (pc := 96) dX7_statement_96 (by decide) ?_
        refine jJ_callG (pc := 97) (as := [_]) dX7_statement_97 mX7_166 (jRcv_of hR.1 rfl rfl) (Nat.le_of_ble_eq_true rfl) (jRm_ok (by omega) (by decide)) (g_own (r := r) (x := 2) (v := 6) (d := d - 1) hR hn hn2 hg hO t0.1 t0.2.1 (by omega)) (fun sw rw tsw ew ow hw => ?_) (fun σw tfw fw => ?_)
        · refine jJ_if_eq (pc := 100) (tgt := 119) dX7_statement_100 (by decide) (fun c100 => ?_) (fun c100 => ?_)
          · exact absurd c100 (by decide)
          · obtain ⟨q2, q3, q4⟩ := hw
            rw [t0.2.1] at q2
            rw [t0.2.2] at q3
            have w1 : sw 1 = s 1 := by rw [q2]; rfl
            have w2 : sw 2 = s 2 := by rw [q2]; rfl
            have w4 : sw 4 = 6 := by rw [q2]; rfl
            have w5 : sw 5 = 2 := by rw [q2]; rfl
            have wl : tsw.length = ts.length + 1 := by rw [q4]; exact len_app
            refine jJ_aload_n (pc := 103) dX7_statement_103 rfl ?_
            refine jJ_iconst (pc := 104) dX7_statement_104 (by decide) ?_
            refine jJ_callG (pc := 105) (as := [_]) dX7_statement_105 mX7_176 (jRcv_of hR.1 rfl rfl) (Nat.le_of_ble_eq_true rfl) (jRm_ok (by omega) (by decide)) (g_expr hR hn hn2 hg 6 sw rw tsw (d - 1) 2 w5 ow (Or.inl w4) (by omega) (by omega)) (fun sx rx tsx ex ox hx => ?_) (fun σx tfx fx => ?_)
            · refine jJ_if_eq (pc := 108) (tgt := 119) dX7_statement_108 (by decide) (fun c108 => ?_) (fun c108 => ?_)
              · exact absurd c108 (by decide)
              · obtain ⟨⟨b4, b1, b2, b5, b6, bj, bl⟩, bo⟩ := hx
                have xk : ∀ j : Nat, (j : Int) < s 1 → rx j = r j := fun j hj => by rw [bj j (by omega), q3]
                have xr : rInner sx rx = rInner s r := rInner_cg (by omega) xk
                have t7 := std_7 (u := scS (gB I a) n sx) (r := rx) b4
                have tg := go_bl (u := scS (gB I a) n sx) (r := rx) bo (by rw [rInner_sc, xr]; exact hr0) (by rw [rInner_sc, xr]; exact hr1) (by rw [sc5, b5, w5]; decide)
                rw [tg.1, tg.2.1, tg.2.2] at t7
                have hB : BlP (gB I a) n sx rx 2 := ⟨t7.1, fun z => by rw [t7.2.1, t7.2.2, if_pos (show scS (gB I a) n sx 10 = 123 from z), if_pos (show scS (gB I a) n sx 10 = 123 from z), if_pos (show scS (gB I a) n sx 5 = 2 from b5.trans w5)]; exact ⟨rfl, rfl⟩, Or.inl rfl, b5.trans w5, by omega⟩
                refine jJ_aload_n (pc := 111) dX7_statement_111 rfl ?_
                refine jJ_iconst (pc := 112) dX7_statement_112 (by decide) ?_
                refine jJ_callG (pc := 113) (as := [_]) dX7_statement_113 mX7_200 (jRcv_of hR.1 rfl rfl) (Nat.le_of_ble_eq_true rfl) (jRm_ok (by omega) (by decide)) (hp sx rx tsx (d - 1) 2 2 (b5.trans w5) ox hB (by omega) (by omega)) (fun sy ry tsy ey oy hy => ?_) (fun σy tfy fy => ?_)
                · refine jJ_if_ne (pc := 116) (tgt := 121) dX7_statement_116 (by decide) (fun c116 => ?_) (fun c116 => ?_)
                  · obtain ⟨y4, y1, y2, y5, yj, yl⟩ := hy
                    have yk : ∀ j : Nat, (j : Int) < s 1 → ry j = r j := fun j hj => by rw [yj j (by omega)]; exact xk j hj
                    refine jJ_aload_n (pc := 121) dX7_statement_121 rfl ?_
                    refine jJ_ldcS (pc := 122) (i := 1) dX7_statement_122 (by decide +kernel) ?_
                    refine jJ_callVd (pc := 124) (as := [_]) dX7_statement_124 mX7_132 (jRcv_of hR.1 rfl rfl) (Nat.le_of_ble_eq_true rfl) (jRm_ok (by omega) (by decide)) (r_isT (d := d - 1) (c := 4) (j := (sy 9).toNat) hR hn hn2 (by decide) (by decide) rfl rfl rfl (by omega)) ?_
                    refine jJ_if_eq (pc := 127) (tgt := 146) dX7_statement_127 (by decide) (fun c127 => ?_) (fun c127 => ?_)
                    · simp only [jb_z] at c127
                      refine jJ_iconst (pc := 146) dX7_statement_146 (by decide) ?_
                      refine jJ_goto (pc := 147) (tgt := 151) dX7_statement_147 (by decide) ?_
                      refine jJ_zret (pc := 151) dX7_statement_151 rfl (Or.inr rfl) ?_
                      exact GQ_ok (ew.trans (ex.trans ey)) oy ⟨Or.inr ⟨y4, c127⟩, by omega, by omega, yk, by omega⟩
                    · simp only [jb_nz] at c127
                      have u0 := std_0 (u := scS (gB I a) n sy) (r := ry) (Or.inr y4)
                      have um := stm_4 (u := scS (gB I a) n sy) (r := ry) c127
                      rw [um.1, um.2, if_pos (show scS (gB I a) n sy 4 = 1 from y4), ← jb_t (show scS (gB I a) n sy 4 = 1 from y4)] at u0
                      refine jJ_aload_n (pc := 130) dX7_statement_130 rfl ?_
                      refine jJ_iconst (pc := 131) dX7_statement_131 (by decide) ?_
                      refine jJ_callG (pc := 132) (as := [_]) dX7_statement_132 mX7_166 (jRcv_of hR.1 rfl rfl) (Nat.le_of_ble_eq_true rfl) (jRm_ok (by omega) (by decide)) (g_come (r := ry) (d := d - 1) hR hn hn2 hg oy (by rw [u0.1]; decide) (by rw [u0.2.1]; exact y5.trans (b5.trans w5)) (by rw [u0.2.1]; rfl) (by omega)) (fun sz rz tsz ez oz hz => ?_) (fun σz tfz fz => ?_)
                      · refine jJ_if_eq (pc := 135) (tgt := 150) dX7_statement_135 (by decide) (fun c135 => ?_) (fun c135 => ?_)
                        · exact absurd c135 (by decide)
                        · obtain ⟨z2, z3, z4⟩ := hz
                          rw [u0.2.1] at z2
                          rw [u0.2.2] at z3
                          have v1 : sz 1 = s 1 := by rw [z2]; show sy 1 = s 1; omega
                          have v2 : sz 2 = s 2 := by rw [z2]; show sy 2 = s 2; omega
                          have v4 : sz 4 = 9 := by rw [z2]; rfl
                          have v5 : sz 5 = 2 := by rw [z2]; exact y5.trans (b5.trans w5)
                          have vl : tsz.length = tsy.length + 1 := by rw [z4]; exact len_app
                          have t9 := std_9 (u := scS (gB I a) n sz) (r := rz) v4
                          have hB3 : BlP (gB I a) n sz rz 3 := ⟨t9.1, fun z => by rw [t9.2.1, t9.2.2, if_pos (show scS (gB I a) n sz 10 = 123 from z), if_pos (show scS (gB I a) n sz 10 = 123 from z)]; exact ⟨rfl, rfl⟩, Or.inr (Or.inl rfl), v5, by omega⟩
                          refine jJ_aload_n (pc := 138) dX7_statement_138 rfl ?_
                          refine jJ_iconst (pc := 139) dX7_statement_139 (by decide) ?_
                          refine jJ_callG (pc := 140) (as := [_]) dX7_statement_140 mX7_200 (jRcv_of hR.1 rfl rfl) (Nat.le_of_ble_eq_true rfl) (jRm_ok (by omega) (by decide)) (hp sz rz tsz (d - 1) 2 3 v5 oz hB3 (by omega) (by omega)) (fun sv rv tsv ev ov hv => ?_) (fun σv tfv fv => ?_)
                          · refine jJ_if_eq (pc := 143) (tgt := 150) dX7_statement_143 (by decide) (fun c143 => ?_) (fun c143 => ?_)
                            · exact absurd c143 (by decide)
                            · obtain ⟨x4, x1, x2, x5, xj, xl⟩ := hv
                              refine jJ_iconst (pc := 146) dX7_statement_146 (by decide) ?_
                              refine jJ_goto (pc := 147) (tgt := 151) dX7_statement_147 (by decide) ?_
                              refine jJ_zret (pc := 151) dX7_statement_151 rfl (Or.inr rfl) ?_
                              exact GQ_ok (ew.trans (ex.trans (ey.trans (ez.trans ev)))) ov ⟨Or.inl x4, by omega, by omega, fun j hj => by rw [xj j (by omega), z3]; exact yk j hj, by omega⟩
                          · refine jJ_if_eq (pc := 143) (tgt := 150) dX7_statement_143 (by decide) (fun c143 => ?_) (fun c143 => ?_)
                            · refine jJ_iconst (pc := 150) dX7_statement_150 (by decide) ?_
                              refine jJ_zret (pc := 151) dX7_statement_151 rfl (Or.inl rfl) ?_
                              exact GQ_fail (ew.trans (ex.trans (ey.trans ez))) fv
                            · exact absurd rfl c143
                      · refine jJ_if_eq (pc := 135) (tgt := 150) dX7_statement_135 (by decide) (fun c135 => ?_) (fun c135 => ?_)
                        · refine jJ_iconst (pc := 150) dX7_statement_150 (by decide) ?_
                          refine jJ_zret (pc := 151) dX7_statement_151 rfl (Or.inl rfl) ?_
                          exact GQ_fail (ew.trans (ex.trans ey)) fz
                        · exact absurd rfl c135
                  · exact absurd c116 (by decide)
                · refine jJ_if_ne (pc := 116) (tgt := 121) dX7_statement_116 (by decide) (fun c116 => ?_) (fun c116 => ?_)
                  · exact absurd rfl c116
                  · refine jJ_iconst (pc := 119) dX7_statement_119 (by decide) ?_
                    refine jJ_zret (pc := 120) dX7_statement_120 rfl (Or.inl rfl) ?_
                    exact GQ_fail (ew.trans ex) fy
            · refine jJ_if_eq (pc := 108) (tgt := 119) dX7_statement_108 (by decide) (fun c108 => ?_) (fun c108 => ?_)
              · refine jJ_iconst (pc := 119) dX7_statement_119 (by decide) ?_
                refine jJ_zret (pc := 120) dX7_statement_120 rfl (Or.inl rfl) ?_
                exact GQ_fail ew fx
              · exact absurd rfl c108
        · refine jJ_if_eq (pc := 100) (tgt := 119) dX7_statement_100 (by decide) (fun c100 => ?_) (fun c100 => ?_)
          · refine jJ_iconst (pc := 119) dX7_statement_119 (by decide) ?_
            refine jJ_zret (pc := 120) dX7_statement_120 rfl (Or.inl rfl) ?_
            exact GQ_fail rfl fw
          · exact absurd rfl c100
    · simp only [jb_nz] at c31
      have tm := stm_5 (u := scS (gB I a) n s) (r := r) c31
      rw [tm.1, tm.2] at t0
      refine jJ_aload_n (pc := 34) dX7_statement_34 rfl ?_
      refine jJ_getr (pc := 35) dX7_statement_35 fX7_33 rfl hR.1 hR.p10 ?_
      try simp only [e10, p10, m10]
      refine jJ_bipush (pc := 38) dX7_statement_38 (by decide) ?_
      refine jJ_dup2 (pc := 40) dX7_statement_40 rfl rfl ?_
      refine jJ_iald (pc := 41) dX7_statement_41 hR.a10 ⟨by omega, by omega⟩ ?_
      try simp only [e10, p10, m10]
      refine jJ_iconst (pc := 42) dX7_statement_42 (by decide) ?_
      refine jJ_iadd (pc := 43) dX7_statement_43 ⟨by omega, by omega⟩ ?_
      refine jJ_iast (pc := 44) dX7_statement_44 hR.a10 ⟨by omega, by omega⟩ ?_
      try simp only [e10, p10, m10]
      refine jJ_aload_n (pc := 45) dX7_statement_45 rfl ?_
      refine jJ_iconst (pc := 46) dX7_statement_46 (by decide) ?_
      refine jJ_callG (pc := 47) (as := [_]) dX7_statement_47 mX7_166 (jRcv_of hR.1 rfl rfl) (Nat.le_of_ble_eq_true rfl) (jRm_ok (by omega) (by decide)) (g_own (r := r) (x := 3) (v := 6) (d := d - 1) hR hn hn2 hg hO t0.1 t0.2.1 (by omega)) (fun sw rw tsw ew ow hw => ?_) (fun σw tfw fw => ?_)
      · refine jJ_if_eq (pc := 50) (tgt := 73) dX7_statement_50 (by decide) (fun c50 => ?_) (fun c50 => ?_)
        · exact absurd c50 (by decide)
        · obtain ⟨q2, q3, q4⟩ := hw
          rw [t0.2.1] at q2
          rw [t0.2.2] at q3
          have w1 : sw 1 = s 1 := by rw [q2]; rfl
          have w2 : sw 2 = s 2 := by rw [q2]; rfl
          have w4 : sw 4 = 6 := by rw [q2]; rfl
          have w5 : sw 5 = 3 := by rw [q2]; rfl
          have wl : tsw.length = ts.length + 1 := by rw [q4]; exact len_app
          refine jJ_aload_n (pc := 53) dX7_statement_53 rfl ?_
          refine jJ_iconst (pc := 54) dX7_statement_54 (by decide) ?_
          refine jJ_callG (pc := 55) (as := [_]) dX7_statement_55 mX7_176 (jRcv_of hR.1 rfl rfl) (Nat.le_of_ble_eq_true rfl) (jRm_ok (by omega) (by decide)) (g_expr hR hn hn2 hg 6 sw rw tsw (d - 1) 3 w5 ow (Or.inl w4) (by omega) (by omega)) (fun sx rx tsx ex ox hx => ?_) (fun σx tfx fx => ?_)
          · refine jJ_if_eq (pc := 58) (tgt := 73) dX7_statement_58 (by decide) (fun c58 => ?_) (fun c58 => ?_)
            · exact absurd c58 (by decide)
            · obtain ⟨⟨b4, b1, b2, b5, b6, bj, bl⟩, bo⟩ := hx
              have xk : ∀ j : Nat, (j : Int) < s 1 → rx j = r j := fun j hj => by rw [bj j (by omega), q3]
              have xr : rInner sx rx = rInner s r := rInner_cg (by omega) xk
              have t7 := std_7 (u := scS (gB I a) n sx) (r := rx) b4
              have tg := go_bl (u := scS (gB I a) n sx) (r := rx) bo (by rw [rInner_sc, xr]; exact hr0) (by rw [rInner_sc, xr]; exact hr1) (by rw [sc5, b5, w5]; decide)
              rw [tg.1, tg.2.1, tg.2.2] at t7
              have hB : BlP (gB I a) n sx rx 4 := ⟨t7.1, fun z => by rw [t7.2.1, t7.2.2, if_pos (show scS (gB I a) n sx 10 = 123 from z), if_pos (show scS (gB I a) n sx 10 = 123 from z), if_neg (show ¬ scS (gB I a) n sx 5 = 2 by rw [sc5, b5, w5]; decide)]; exact ⟨rfl, rfl⟩, Or.inr (Or.inr rfl), b5.trans w5, by omega⟩
              refine jJ_aload_n (pc := 61) dX7_statement_61 rfl ?_
              refine jJ_iconst (pc := 62) dX7_statement_62 (by decide) ?_
              refine jJ_callG (pc := 63) (as := [_]) dX7_statement_63 mX7_200 (jRcv_of hR.1 rfl rfl) (Nat.le_of_ble_eq_true rfl) (jRm_ok (by omega) (by decide)) (hp sx rx tsx (d - 1) 3 4 (b5.trans w5) ox hB (by omega) (by omega)) (fun sy ry tsy ey oy hy => ?_) (fun σy tfy fy => ?_)
              · refine jJ_if_eq (pc := 66) (tgt := 73) dX7_statement_66 (by decide) (fun c66 => ?_) (fun c66 => ?_)
                · exact absurd c66 (by decide)
                · obtain ⟨y4, y1, y2, y5, yj, yl⟩ := hy
                  refine jJ_iconst (pc := 69) dX7_statement_69 (by decide) ?_
                  refine jJ_goto (pc := 70) (tgt := 74) dX7_statement_70 (by decide) ?_
                  refine jJ_zret (pc := 74) dX7_statement_74 rfl (Or.inr rfl) ?_
                  exact GQ_ok (ew.trans (ex.trans ey)) oy ⟨Or.inl y4, by omega, by omega, fun j hj => by rw [yj j (by omega)]; exact xk j hj, by omega⟩
              · refine jJ_if_eq (pc := 66) (tgt := 73) dX7_statement_66 (by decide) (fun c66 => ?_) (fun c66 => ?_)
                · refine jJ_iconst (pc := 73) dX7_statement_73 (by decide) ?_
                  refine jJ_zret (pc := 74) dX7_statement_74 rfl (Or.inl rfl) ?_
                  exact GQ_fail (ew.trans ex) fy
                · exact absurd rfl c66
          · refine jJ_if_eq (pc := 58) (tgt := 73) dX7_statement_58 (by decide) (fun c58 => ?_) (fun c58 => ?_)
            · refine jJ_iconst (pc := 73) dX7_statement_73 (by decide) ?_
              refine jJ_zret (pc := 74) dX7_statement_74 rfl (Or.inl rfl) ?_
              exact GQ_fail ew fx
            · exact absurd rfl c58
      · refine jJ_if_eq (pc := 50) (tgt := 73) dX7_statement_50 (by decide) (fun c50 => ?_) (fun c50 => ?_)
        · refine jJ_iconst (pc := 73) dX7_statement_73 (by decide) ?_
          refine jJ_zret (pc := 74) dX7_statement_74 rfl (Or.inl rfl) ?_
          exact GQ_fail rfl fw
        · exact absurd rfl c50
  · simp only [jb_nz] at c6
    refine jJ_aload_n (pc := 9) dX7_statement_9 rfl ?_
    refine jJ_getr (pc := 10) dX7_statement_10 fX7_33 rfl hR.1 hR.p10 ?_
    try simp only [e10, p10, m10]
    refine jJ_bipush (pc := 13) dX7_statement_13 (by decide) ?_
    refine jJ_dup2 (pc := 15) dX7_statement_15 rfl rfl ?_
    refine jJ_iald (pc := 16) dX7_statement_16 hR.a10 ⟨by omega, by omega⟩ ?_
    try simp only [e10, p10, m10]
    refine jJ_iconst (pc := 17) dX7_statement_17 (by decide) ?_
    refine jJ_iadd (pc := 18) dX7_statement_18 ⟨by omega, by omega⟩ ?_
    refine jJ_iast (pc := 19) dX7_statement_19 hR.a10 ⟨by omega, by omega⟩ ?_
    try simp only [e10, p10, m10]
    refine jJ_aload_n (pc := 20) dX7_statement_20 rfl ?_
    refine jJ_callG (pc := 21) (as := []) dX7_statement_21 mX7_198 (jRcv_of hR.1 rfl rfl) (Nat.le_of_ble_eq_true rfl) (jRm_ok (by omega) (by decide)) (g_call (r := r) (d := d - 1) hR hn hn2 hg hO h401 c6 (by omega)) (fun sw rw tsw ew ow hw => ?_) (fun σw tfw fw => ?_)
    · refine jJ_zret (pc := 24) dX7_statement_24 rfl (Or.inr rfl) ?_
      exact GQ_ok ew ow hw
    · refine jJ_zret (pc := 24) dX7_statement_24 rfl (Or.inl rfl) ?_
      exact GQ_fail rfl fw
theorem g_statement (hR : RfL E P m a) (hn : I (a 7) 12 = (n : Int)) (hn2 : n ≤ 800) (hg : ∀ k, k < n → 0 ≤ gB I a k ∧ gB I a k ≤ 255) : ∀ L : Nat, StmP E I P m n a fk fp L := by
  intro L
  induction L with
  | zero => exact g_statement_of hR hn hn2 hg (g_block_of hR hn hn2 hg (fun L' h => absurd h (by omega)))
  | succ L ih => exact g_statement_of hR hn hn2 hg (g_block_of hR hn hn2 hg (fun L' h => by cases h; exact ih))
end JRZ
