section JRI
variable {E : jE} {I : jI} {P : jP} {d m : Nat} {a : Nat → Nat}
/-- k steps from i on -/
def itF (g : Nat → (Nat → Int) → Nat → Int) : Nat → Nat → (Nat → Int) → Nat → Int
  | 0, _, h => h
  | k + 1, i, h => itF g k (i + 1) (g i h)
/-- all rows of one TEST, of two TESTS -/
def br0 (F : (Int → Int → Int → Int) → Int) (tp xp : Int) (h : Nat → Int) : Nat → Int := itF (fun l => tryC F tp xp 0 0 0 0 0 (l : Int)) 3 0 h
def br1 (F : (Int → Int → Int → Int) → Int) (tp xp : Int) (h : Nat → Int) : Nat → Int := itF (fun x => itF (fun b => itF (fun l => tryC F tp xp 1 (x : Int) (b : Int) 0 0 (l : Int)) 3 0) 3 0) 10 0 h
def br2 (F : (Int → Int → Int → Int) → Int) (tp xp : Int) (h : Nat → Int) : Nat → Int := itF (fun x => itF (fun b => itF (fun y h => if y = x then h else itF (fun c => itF (fun l => tryC F tp xp 2 (x : Int) (b : Int) (y : Int) (c : Int) (l : Int)) 3 0) 3 0 h) 10 0) 3 0) 10 0 h
def brF (F : (Int → Int → Int → Int) → Int) (tp xp : Int) (h : Nat → Int) : Nat → Int := br2 F tp xp (br1 F tp xp (br0 F tp xp h))
variable {kd : Nat} {tp xp : Int} {F : (Int → Int → Int → Int) → Int} {Z : Code → List Frame → Array Value → State → State → Prop} {sum : Int}
theorem fd_0 (hR : RfL E P m a) (hG : GI I m a 2388 F) (hF1 : F (fun _ _ _ => 1) ≤ 2388) (hkd : kd < 16) (htp : I (a 17) 0 = tp ∧ 0 ≤ tp ∧ tp ≤ 100) (hxp : I (a 17) 1 = xp ∧ 0 ≤ xp ∧ xp ≤ 100) (hd : 3 ≤ d) {z4 z5 z6 z7 : Option jV} :
    ∀ (r l : Nat) (h : Nat → Int), l + r = 3 → (∀ z, jJ E yX7_find.cls cX7_find 8 (some .int) (jRm d) Z 0 0 58 [some (jp m), some (ji sum), some (ji (kd : Int)), z, z4, z5, z6, z7] [] (hbM I a kd (itF (fun l => tryC F tp xp 0 0 0 0 0 (l : Int)) r l h)) P) → jJ E yX7_find.cls cX7_find 8 (some .int) (jRm d) Z 0 0 36 [some (jp m), some (ji sum), some (ji (kd : Int)), some (ji (l : Int)), z4, z5, z6, z7] [] (hbM I a kd h) P := by
  intro r
  induction r with
  | zero =>
    intro l h hl kk
    refine jJ_iload_n (pc := 36) dX7_find_36 rfl ?_
    refine jJ_iconst (pc := 37) dX7_find_37 (by decide) ?_
    refine jJ_icmp_ge (pc := 38) (tgt := 58) dX7_find_38 (by decide) (fun c38 => ?_) (fun c38 => ?_)
    · exact kk _
    · exfalso
      omega
  | succ r ih =>
    intro l h hl kk
    refine jJ_iload_n (pc := 36) dX7_find_36 rfl ?_
    refine jJ_iconst (pc := 37) dX7_find_37 (by decide) ?_
    refine jJ_icmp_ge (pc := 38) (tgt := 58) dX7_find_38 (by decide) (fun c38 => ?_) (fun c38 => ?_)
    · exfalso
      omega
    · refine jJ_aload_n (pc := 41) dX7_find_41 rfl ?_
      refine jJ_iload_n (pc := 42) dX7_find_42 rfl ?_
      refine jJ_iconst (pc := 43) dX7_find_43 (by decide) ?_
      refine jJ_iconst (pc := 44) dX7_find_44 (by decide) ?_
      refine jJ_iconst (pc := 45) dX7_find_45 (by decide) ?_
      refine jJ_iconst (pc := 46) dX7_find_46 (by decide) ?_
      refine jJ_iconst (pc := 47) dX7_find_47 (by decide) ?_
      refine jJ_iload_n (pc := 48) dX7_find_48 rfl ?_
      refine jJ_callVd (pc := 49) (as := [_, _, _, _, _, _, _]) dX7_find_49 mX7_253 (jRcv_of hR.1 rfl rfl) (Nat.le_of_ble_eq_true rfl) (jRm_ok (by omega) (by decide)) (x_tries (d := d - 1) hR hG hF1 hkd (by decide) htp hxp (by omega)) ?_
      refine jJ_iinc (pc := 52) (ls' := [_, _, _, _, _, _, _, _]) dX7_find_52 rfl ⟨by omega, by omega⟩ rfl ?_
      refine jJ_goto (pc := 55) (tgt := 36) dX7_find_55 (by decide) ?_
      exact ih (l + 1) _ (by omega) kk
theorem fd_1l (hR : RfL E P m a) (hG : GI I m a 2388 F) (hF1 : F (fun _ _ _ => 1) ≤ 2388) (hkd : kd < 16) (htp : I (a 17) 0 = tp ∧ 0 ≤ tp ∧ tp ≤ 100) (hxp : I (a 17) 1 = xp ∧ 0 ≤ xp ∧ xp ≤ 100) (hd : 3 ≤ d) {x b : Nat} {z6 z7 : Option jV} :
    ∀ (r l : Nat) (h : Nat → Int), l + r = 3 → (∀ z, jJ E yX7_find.cls cX7_find 8 (some .int) (jRm d) Z 0 0 103 [some (jp m), some (ji sum), some (ji (kd : Int)), some (ji (x : Int)), some (ji (b : Int)), z, z6, z7] [] (hbM I a kd (itF (fun l => tryC F tp xp 1 (x : Int) (b : Int) 0 0 (l : Int)) r l h)) P) → jJ E yX7_find.cls cX7_find 8 (some .int) (jRm d) Z 0 0 78 [some (jp m), some (ji sum), some (ji (kd : Int)), some (ji (x : Int)), some (ji (b : Int)), some (ji (l : Int)), z6, z7] [] (hbM I a kd h) P := by
  intro r
  induction r with
  | zero =>
    intro l h hl kk
    refine jJ_iload (pc := 78) dX7_find_78 rfl ?_
    refine jJ_iconst (pc := 80) dX7_find_80 (by decide) ?_
    refine jJ_icmp_ge (pc := 81) (tgt := 103) dX7_find_81 (by decide) (fun c81 => ?_) (fun c81 => ?_)
    · exact kk _
    · exfalso
      omega
  | succ r ih =>
    intro l h hl kk
    refine jJ_iload (pc := 78) dX7_find_78 rfl ?_
    refine jJ_iconst (pc := 80) dX7_find_80 (by decide) ?_
    refine jJ_icmp_ge (pc := 81) (tgt := 103) dX7_find_81 (by decide) (fun c81 => ?_) (fun c81 => ?_)
    · exfalso
      omega
    · refine jJ_aload_n (pc := 84) dX7_find_84 rfl ?_
      refine jJ_iload_n (pc := 85) dX7_find_85 rfl ?_
      refine jJ_iconst (pc := 86) dX7_find_86 (by decide) ?_
      refine jJ_iload_n (pc := 87) dX7_find_87 rfl ?_
      refine jJ_iload (pc := 88) dX7_find_88 rfl ?_
      refine jJ_iconst (pc := 90) dX7_find_90 (by decide) ?_
      refine jJ_iconst (pc := 91) dX7_find_91 (by decide) ?_
      refine jJ_iload (pc := 92) dX7_find_92 rfl ?_
      refine jJ_callVd (pc := 94) (as := [_, _, _, _, _, _, _]) dX7_find_94 mX7_253 (jRcv_of hR.1 rfl rfl) (Nat.le_of_ble_eq_true rfl) (jRm_ok (by omega) (by decide)) (x_tries (d := d - 1) hR hG hF1 hkd (by decide) htp hxp (by omega)) ?_
      refine jJ_iinc (pc := 97) (ls' := [_, _, _, _, _, _, _, _]) dX7_find_97 rfl ⟨by omega, by omega⟩ rfl ?_
      refine jJ_goto (pc := 100) (tgt := 78) dX7_find_100 (by decide) ?_
      exact ih (l + 1) _ (by omega) kk
theorem fd_1b (hR : RfL E P m a) (hG : GI I m a 2388 F) (hF1 : F (fun _ _ _ => 1) ≤ 2388) (hkd : kd < 16) (htp : I (a 17) 0 = tp ∧ 0 ≤ tp ∧ tp ≤ 100) (hxp : I (a 17) 1 = xp ∧ 0 ≤ xp ∧ xp ≤ 100) (hd : 3 ≤ d) {x : Nat} {z6 z7 : Option jV} :
    ∀ (r b : Nat) (h : Nat → Int) (z5 : Option jV), b + r = 3 → (∀ z z5, jJ E yX7_find.cls cX7_find 8 (some .int) (jRm d) Z 0 0 109 [some (jp m), some (ji sum), some (ji (kd : Int)), some (ji (x : Int)), z, z5, z6, z7] [] (hbM I a kd (itF (fun b => itF (fun l => tryC F tp xp 1 (x : Int) (b : Int) 0 0 (l : Int)) 3 0) r b h)) P) → jJ E yX7_find.cls cX7_find 8 (some .int) (jRm d) Z 0 0 69 [some (jp m), some (ji sum), some (ji (kd : Int)), some (ji (x : Int)), some (ji (b : Int)), z5, z6, z7] [] (hbM I a kd h) P := by
  intro r
  induction r with
  | zero =>
    intro b h z5 hb kk
    refine jJ_iload (pc := 69) dX7_find_69 rfl ?_
    refine jJ_iconst (pc := 71) dX7_find_71 (by decide) ?_
    refine jJ_icmp_ge (pc := 72) (tgt := 109) dX7_find_72 (by decide) (fun c72 => ?_) (fun c72 => ?_)
    · exact kk _ _
    · exfalso
      omega
  | succ r ih =>
    intro b h z5 hb kk
    refine jJ_iload (pc := 69) dX7_find_69 rfl ?_
    refine jJ_iconst (pc := 71) dX7_find_71 (by decide) ?_
    refine jJ_icmp_ge (pc := 72) (tgt := 109) dX7_find_72 (by decide) (fun c72 => ?_) (fun c72 => ?_)
    · exfalso
      omega
    · refine jJ_iconst (pc := 75) dX7_find_75 (by decide) ?_
      refine jJ_istore (pc := 76) (ls' := [_, _, _, _, _, _, _, _]) dX7_find_76 (Nat.le_of_ble_eq_true rfl) rfl ?_
      refine fd_1l hR hG hF1 hkd htp hxp hd 3 0 h (by omega) (fun z => ?_)
      refine jJ_iinc (pc := 103) (ls' := [_, _, _, _, _, _, _, _]) dX7_find_103 rfl ⟨by omega, by omega⟩ rfl ?_
      refine jJ_goto (pc := 106) (tgt := 69) dX7_find_106 (by decide) ?_
      exact ih (b + 1) _ _ (by omega) kk
theorem fd_1 (hR : RfL E P m a) (hG : GI I m a 2388 F) (hF1 : F (fun _ _ _ => 1) ≤ 2388) (hkd : kd < 16) (htp : I (a 17) 0 = tp ∧ 0 ≤ tp ∧ tp ≤ 100) (hxp : I (a 17) 1 = xp ∧ 0 ≤ xp ∧ xp ≤ 100) (hd : 3 ≤ d) {z6 z7 : Option jV} :
    ∀ (r x : Nat) (h : Nat → Int) (z4 z5 : Option jV), x + r = 10 → (∀ z z4 z5, jJ E yX7_find.cls cX7_find 8 (some .int) (jRm d) Z 0 0 115 [some (jp m), some (ji sum), some (ji (kd : Int)), z, z4, z5, z6, z7] [] (hbM I a kd (itF (fun x => itF (fun b => itF (fun l => tryC F tp xp 1 (x : Int) (b : Int) 0 0 (l : Int)) 3 0) 3 0) r x h)) P) → jJ E yX7_find.cls cX7_find 8 (some .int) (jRm d) Z 0 0 60 [some (jp m), some (ji sum), some (ji (kd : Int)), some (ji (x : Int)), z4, z5, z6, z7] [] (hbM I a kd h) P := by
  intro r
  induction r with
  | zero =>
    intro x h z4 z5 hx kk
    refine jJ_iload_n (pc := 60) dX7_find_60 rfl ?_
    refine jJ_bipush (pc := 61) dX7_find_61 (by decide) ?_
    refine jJ_icmp_ge (pc := 63) (tgt := 115) dX7_find_63 (by decide) (fun c63 => ?_) (fun c63 => ?_)
    · exact kk _ _ _
    · exfalso
      omega
  | succ r ih =>
    intro x h z4 z5 hx kk
    refine jJ_iload_n (pc := 60) dX7_find_60 rfl ?_
    refine jJ_bipush (pc := 61) dX7_find_61 (by decide) ?_
    refine jJ_icmp_ge (pc := 63) (tgt := 115) dX7_find_63 (by decide) (fun c63 => ?_) (fun c63 => ?_)
    · exfalso
      omega
    · refine jJ_iconst (pc := 66) dX7_find_66 (by decide) ?_
      refine jJ_istore (pc := 67) (ls' := [_, _, _, _, _, _, _, _]) dX7_find_67 (Nat.le_of_ble_eq_true rfl) rfl ?_
      refine fd_1b hR hG hF1 hkd htp hxp hd 3 0 h _ (by omega) (fun z z5 => ?_)
      refine jJ_iinc (pc := 109) (ls' := [_, _, _, _, _, _, _, _]) dX7_find_109 rfl ⟨by omega, by omega⟩ rfl ?_
      refine jJ_goto (pc := 112) (tgt := 60) dX7_find_112 (by decide) ?_
      exact ih (x + 1) _ _ _ (by omega) kk
theorem fd_2l (hR : RfL E P m a) (hG : GI I m a 2388 F) (hF1 : F (fun _ _ _ => 1) ≤ 2388) (hkd : kd < 16) (htp : I (a 17) 0 = tp ∧ 0 ≤ tp ∧ tp ≤ 100) (hxp : I (a 17) 1 = xp ∧ 0 ≤ xp ∧ xp ≤ 100) (hd : 3 ≤ d) {x b y c : Nat} :
    ∀ (r l : Nat) (h : Nat → Int), l + r = 3 → (∀ z, jJ E yX7_find.cls cX7_find 8 (some .int) (jRm d) Z 0 0 187 [some (jp m), some (ji sum), some (ji (kd : Int)), some (ji (x : Int)), some (ji (b : Int)), some (ji (y : Int)), some (ji (c : Int)), z] [] (hbM I a kd (itF (fun l => tryC F tp xp 2 (x : Int) (b : Int) (y : Int) (c : Int) (l : Int)) r l h)) P) → jJ E yX7_find.cls cX7_find 8 (some .int) (jRm d) Z 0 0 160 [some (jp m), some (ji sum), some (ji (kd : Int)), some (ji (x : Int)), some (ji (b : Int)), some (ji (y : Int)), some (ji (c : Int)), some (ji (l : Int))] [] (hbM I a kd h) P := by
  intro r
  induction r with
  | zero =>
    intro l h hl kk
    refine jJ_iload (pc := 160) dX7_find_160 rfl ?_
    refine jJ_iconst (pc := 162) dX7_find_162 (by decide) ?_
    refine jJ_icmp_ge (pc := 163) (tgt := 187) dX7_find_163 (by decide) (fun c163 => ?_) (fun c163 => ?_)
    · exact kk _
    · exfalso
      omega
  | succ r ih =>
    intro l h hl kk
    refine jJ_iload (pc := 160) dX7_find_160 rfl ?_
    refine jJ_iconst (pc := 162) dX7_find_162 (by decide) ?_
    refine jJ_icmp_ge (pc := 163) (tgt := 187) dX7_find_163 (by decide) (fun c163 => ?_) (fun c163 => ?_)
    · exfalso
      omega
    · refine jJ_aload_n (pc := 166) dX7_find_166 rfl ?_
      refine jJ_iload_n (pc := 167) dX7_find_167 rfl ?_
      refine jJ_iconst (pc := 168) dX7_find_168 (by decide) ?_
      refine jJ_iload_n (pc := 169) dX7_find_169 rfl ?_
      refine jJ_iload (pc := 170) dX7_find_170 rfl ?_
      refine jJ_iload (pc := 172) dX7_find_172 rfl ?_
      refine jJ_iload (pc := 174) dX7_find_174 rfl ?_
      refine jJ_iload (pc := 176) dX7_find_176 rfl ?_
      refine jJ_callVd (pc := 178) (as := [_, _, _, _, _, _, _]) dX7_find_178 mX7_253 (jRcv_of hR.1 rfl rfl) (Nat.le_of_ble_eq_true rfl) (jRm_ok (by omega) (by decide)) (x_tries (d := d - 1) hR hG hF1 hkd (by decide) htp hxp (by omega)) ?_
      refine jJ_iinc (pc := 181) (ls' := [_, _, _, _, _, _, _, _]) dX7_find_181 rfl ⟨by omega, by omega⟩ rfl ?_
      refine jJ_goto (pc := 184) (tgt := 160) dX7_find_184 (by decide) ?_
      exact ih (l + 1) _ (by omega) kk
theorem fd_2c (hR : RfL E P m a) (hG : GI I m a 2388 F) (hF1 : F (fun _ _ _ => 1) ≤ 2388) (hkd : kd < 16) (htp : I (a 17) 0 = tp ∧ 0 ≤ tp ∧ tp ≤ 100) (hxp : I (a 17) 1 = xp ∧ 0 ≤ xp ∧ xp ≤ 100) (hd : 3 ≤ d) {x b y : Nat} (hyx : y ≠ x) :
    ∀ (r c : Nat) (h : Nat → Int) (z7 : Option jV), c + r = 3 → (∀ z z7, jJ E yX7_find.cls cX7_find 8 (some .int) (jRm d) Z 0 0 193 [some (jp m), some (ji sum), some (ji (kd : Int)), some (ji (x : Int)), some (ji (b : Int)), some (ji (y : Int)), z, z7] [] (hbM I a kd (itF (fun c => itF (fun l => tryC F tp xp 2 (x : Int) (b : Int) (y : Int) (c : Int) (l : Int)) 3 0) r c h)) P) → jJ E yX7_find.cls cX7_find 8 (some .int) (jRm d) Z 0 0 145 [some (jp m), some (ji sum), some (ji (kd : Int)), some (ji (x : Int)), some (ji (b : Int)), some (ji (y : Int)), some (ji (c : Int)), z7] [] (hbM I a kd h) P := by
  intro r
  induction r with
  | zero =>
    intro c h z7 hc kk
    refine jJ_iload (pc := 145) dX7_find_145 rfl ?_
    refine jJ_iconst (pc := 147) dX7_find_147 (by decide) ?_
    refine jJ_icmp_ge (pc := 148) (tgt := 193) dX7_find_148 (by decide) (fun c148 => ?_) (fun c148 => ?_)
    · exact kk _ _
    · exfalso
      omega
  | succ r ih =>
    intro c h z7 hc kk
    refine jJ_iload (pc := 145) dX7_find_145 rfl ?_
    refine jJ_iconst (pc := 147) dX7_find_147 (by decide) ?_
    refine jJ_icmp_ge (pc := 148) (tgt := 193) dX7_find_148 (by decide) (fun c148 => ?_) (fun c148 => ?_)
    · exfalso
      omega
    · refine jJ_iload (pc := 151) dX7_find_151 rfl ?_
      refine jJ_iload_n (pc := 153) dX7_find_153 rfl ?_
      refine jJ_icmp_eq (pc := 154) (tgt := 193) dX7_find_154 (by decide) (fun c154 => ?_) (fun c154 => ?_)
      · exfalso
        omega
      · refine jJ_iconst (pc := 157) dX7_find_157 (by decide) ?_
        refine jJ_istore (pc := 158) (ls' := [_, _, _, _, _, _, _, _]) dX7_find_158 (Nat.le_of_ble_eq_true rfl) rfl ?_
        refine fd_2l hR hG hF1 hkd htp hxp hd 3 0 h (by omega) (fun z => ?_)
        refine jJ_iinc (pc := 187) (ls' := [_, _, _, _, _, _, _, _]) dX7_find_187 rfl ⟨by omega, by omega⟩ rfl ?_
        refine jJ_goto (pc := 190) (tgt := 145) dX7_find_190 (by decide) ?_
        exact ih (c + 1) _ _ (by omega) kk
theorem fd_2y (hR : RfL E P m a) (hG : GI I m a 2388 F) (hF1 : F (fun _ _ _ => 1) ≤ 2388) (hkd : kd < 16) (htp : I (a 17) 0 = tp ∧ 0 ≤ tp ∧ tp ≤ 100) (hxp : I (a 17) 1 = xp ∧ 0 ≤ xp ∧ xp ≤ 100) (hd : 3 ≤ d) {x b : Nat} (hx : x < 10) :
    ∀ (r y : Nat) (h : Nat → Int) (z6 z7 : Option jV), y + r = 10 → (∀ z z6 z7, jJ E yX7_find.cls cX7_find 8 (some .int) (jRm d) Z 0 0 199 [some (jp m), some (ji sum), some (ji (kd : Int)), some (ji (x : Int)), some (ji (b : Int)), z, z6, z7] [] (hbM I a kd (itF (fun y h => if y = x then h else itF (fun c => itF (fun l => tryC F tp xp 2 (x : Int) (b : Int) (y : Int) (c : Int) (l : Int)) 3 0) 3 0 h) r y h)) P) → jJ E yX7_find.cls cX7_find 8 (some .int) (jRm d) Z 0 0 135 [some (jp m), some (ji sum), some (ji (kd : Int)), some (ji (x : Int)), some (ji (b : Int)), some (ji (y : Int)), z6, z7] [] (hbM I a kd h) P := by
  intro r
  induction r with
  | zero =>
    intro y h z6 z7 hy kk
    refine jJ_iload (pc := 135) dX7_find_135 rfl ?_
    refine jJ_bipush (pc := 137) dX7_find_137 (by decide) ?_
    refine jJ_icmp_ge (pc := 139) (tgt := 199) dX7_find_139 (by decide) (fun c139 => ?_) (fun c139 => ?_)
    · exact kk _ _ _
    · exfalso
      omega
  | succ r ih =>
    intro y h z6 z7 hy kk
    rw [itF] at kk
    refine jJ_iload (pc := 135) dX7_find_135 rfl ?_
    refine jJ_bipush (pc := 137) dX7_find_137 (by decide) ?_
    refine jJ_icmp_ge (pc := 139) (tgt := 199) dX7_find_139 (by decide) (fun c139 => ?_) (fun c139 => ?_)
    · exfalso
      omega
    · by_cases q : y = x
      · rw [if_pos q] at kk
        refine jJ_iconst (pc := 142) dX7_find_142 (by decide) ?_
        refine jJ_istore (pc := 143) (ls' := [_, _, _, _, _, _, _, _]) dX7_find_143 (Nat.le_of_ble_eq_true rfl) rfl ?_
        refine jJ_iload (pc := 145) dX7_find_145 rfl ?_
        refine jJ_iconst (pc := 147) dX7_find_147 (by decide) ?_
        refine jJ_icmp_ge (pc := 148) (tgt := 193) dX7_find_148 (by decide) (fun c148 => ?_) (fun c148 => ?_)
        · exact absurd c148 (by decide)
        · refine jJ_iload (pc := 151) dX7_find_151 rfl ?_
          refine jJ_iload_n (pc := 153) dX7_find_153 rfl ?_
          refine jJ_icmp_eq (pc := 154) (tgt := 193) dX7_find_154 (by decide) (fun c154 => ?_) (fun c154 => ?_)
          · refine jJ_iinc (pc := 193) (ls' := [_, _, _, _, _, _, _, _]) dX7_find_193 rfl ⟨by omega, by omega⟩ rfl ?_
            refine jJ_goto (pc := 196) (tgt := 135) dX7_find_196 (by decide) ?_
            exact ih (y + 1) h _ _ (by omega) kk
          · exfalso
            omega
      · rw [if_neg q] at kk
        refine jJ_iconst (pc := 142) dX7_find_142 (by decide) ?_
        refine jJ_istore (pc := 143) (ls' := [_, _, _, _, _, _, _, _]) dX7_find_143 (Nat.le_of_ble_eq_true rfl) rfl ?_
        refine fd_2c hR hG hF1 hkd htp hxp hd q 3 0 h _ (by omega) (fun z z7 => ?_)
        refine jJ_iinc (pc := 193) (ls' := [_, _, _, _, _, _, _, _]) dX7_find_193 rfl ⟨by omega, by omega⟩ rfl ?_
        refine jJ_goto (pc := 196) (tgt := 135) dX7_find_196 (by decide) ?_
        exact ih (y + 1) _ _ _ (by omega) kk
theorem fd_2b (hR : RfL E P m a) (hG : GI I m a 2388 F) (hF1 : F (fun _ _ _ => 1) ≤ 2388) (hkd : kd < 16) (htp : I (a 17) 0 = tp ∧ 0 ≤ tp ∧ tp ≤ 100) (hxp : I (a 17) 1 = xp ∧ 0 ≤ xp ∧ xp ≤ 100) (hd : 3 ≤ d) {x : Nat} (hx : x < 10) :
    ∀ (r b : Nat) (h : Nat → Int) (z5 z6 z7 : Option jV), b + r = 3 → (∀ z z5 z6 z7, jJ E yX7_find.cls cX7_find 8 (some .int) (jRm d) Z 0 0 205 [some (jp m), some (ji sum), some (ji (kd : Int)), some (ji (x : Int)), z, z5, z6, z7] [] (hbM I a kd (itF (fun b => itF (fun y h => if y = x then h else itF (fun c => itF (fun l => tryC F tp xp 2 (x : Int) (b : Int) (y : Int) (c : Int) (l : Int)) 3 0) 3 0 h) 10 0) r b h)) P) → jJ E yX7_find.cls cX7_find 8 (some .int) (jRm d) Z 0 0 126 [some (jp m), some (ji sum), some (ji (kd : Int)), some (ji (x : Int)), some (ji (b : Int)), z5, z6, z7] [] (hbM I a kd h) P := by
  intro r
  induction r with
  | zero =>
    intro b h z5 z6 z7 hb kk
    refine jJ_iload (pc := 126) dX7_find_126 rfl ?_
    refine jJ_iconst (pc := 128) dX7_find_128 (by decide) ?_
    refine jJ_icmp_ge (pc := 129) (tgt := 205) dX7_find_129 (by decide) (fun c129 => ?_) (fun c129 => ?_)
    · exact kk _ _ _ _
    · exfalso
      omega
  | succ r ih =>
    intro b h z5 z6 z7 hb kk
    refine jJ_iload (pc := 126) dX7_find_126 rfl ?_
    refine jJ_iconst (pc := 128) dX7_find_128 (by decide) ?_
    refine jJ_icmp_ge (pc := 129) (tgt := 205) dX7_find_129 (by decide) (fun c129 => ?_) (fun c129 => ?_)
    · exfalso
      omega
    · refine jJ_iconst (pc := 132) dX7_find_132 (by decide) ?_
      refine jJ_istore (pc := 133) (ls' := [_, _, _, _, _, _, _, _]) dX7_find_133 (Nat.le_of_ble_eq_true rfl) rfl ?_
      refine fd_2y hR hG hF1 hkd htp hxp hd hx 10 0 h _ _ (by omega) (fun z z6 z7 => ?_)
      refine jJ_iinc (pc := 199) (ls' := [_, _, _, _, _, _, _, _]) dX7_find_199 rfl ⟨by omega, by omega⟩ rfl ?_
      refine jJ_goto (pc := 202) (tgt := 126) dX7_find_202 (by decide) ?_
      exact ih (b + 1) _ _ _ _ (by omega) kk
theorem fd_2 (hR : RfL E P m a) (hG : GI I m a 2388 F) (hF1 : F (fun _ _ _ => 1) ≤ 2388) (hkd : kd < 16) (htp : I (a 17) 0 = tp ∧ 0 ≤ tp ∧ tp ≤ 100) (hxp : I (a 17) 1 = xp ∧ 0 ≤ xp ∧ xp ≤ 100) (hd : 3 ≤ d) :
    ∀ (r x : Nat) (h : Nat → Int) (z4 z5 z6 z7 : Option jV), x + r = 10 → (∀ z z4 z5 z6 z7, jJ E yX7_find.cls cX7_find 8 (some .int) (jRm d) Z 0 0 211 [some (jp m), some (ji sum), some (ji (kd : Int)), z, z4, z5, z6, z7] [] (hbM I a kd (itF (fun x => itF (fun b => itF (fun y h => if y = x then h else itF (fun c => itF (fun l => tryC F tp xp 2 (x : Int) (b : Int) (y : Int) (c : Int) (l : Int)) 3 0) 3 0 h) 10 0) 3 0) r x h)) P) → jJ E yX7_find.cls cX7_find 8 (some .int) (jRm d) Z 0 0 117 [some (jp m), some (ji sum), some (ji (kd : Int)), some (ji (x : Int)), z4, z5, z6, z7] [] (hbM I a kd h) P := by
  intro r
  induction r with
  | zero =>
    intro x h z4 z5 z6 z7 hx kk
    refine jJ_iload_n (pc := 117) dX7_find_117 rfl ?_
    refine jJ_bipush (pc := 118) dX7_find_118 (by decide) ?_
    refine jJ_icmp_ge (pc := 120) (tgt := 211) dX7_find_120 (by decide) (fun c120 => ?_) (fun c120 => ?_)
    · exact kk _ _ _ _ _
    · exfalso
      omega
  | succ r ih =>
    intro x h z4 z5 z6 z7 hx kk
    refine jJ_iload_n (pc := 117) dX7_find_117 rfl ?_
    refine jJ_bipush (pc := 118) dX7_find_118 (by decide) ?_
    refine jJ_icmp_ge (pc := 120) (tgt := 211) dX7_find_120 (by decide) (fun c120 => ?_) (fun c120 => ?_)
    · exfalso
      omega
    · refine jJ_iconst (pc := 123) dX7_find_123 (by decide) ?_
      refine jJ_istore (pc := 124) (ls' := [_, _, _, _, _, _, _, _]) dX7_find_124 (Nat.le_of_ble_eq_true rfl) rfl ?_
      refine fd_2b hR hG hF1 hkd htp hxp hd (by omega) 3 0 h _ _ _ (by omega) (fun z z5 z6 z7 => ?_)
      refine jJ_iinc (pc := 205) (ls' := [_, _, _, _, _, _, _, _]) dX7_find_205 rfl ⟨by omega, by omega⟩ rfl ?_
      refine jJ_goto (pc := 208) (tgt := 117) dX7_find_208 (by decide) ?_
      exact ih (x + 1) _ _ _ _ _ (by omega) kk
/-- only what find() may change has changed -/
def fF (I : jI) (m : Nat) (a : Nat → Nat) (I' : jI) : Prop := (∀ b, b ≠ m → b ≠ a 18 → b ≠ a 28 → b ≠ a 29 → b ≠ a 30 → I' b = I b) ∧ ∀ k, k ≠ 31 → I' m k = I m k
theorem fF.row {J : jI} {j : Nat} (h : fF I m a J) (hR : RfL E P m a) (hj : j ∈ rfK) (h1 : j < 18 ∨ 30 < j) : J (a j) = I (a j) := h.1 _ (hR.nm hj) (hR.d hj (by decide) (by omega)) (hR.d hj (by decide) (by omega)) (hR.d hj (by decide) (by omega)) (hR.d hj (by decide) (by omega))
theorem fF.rts {J : jI} {X : Nat → TX} (h : fF I m a J) (hR : RfL E P m a) (hX : RTs I a X) : RTs J a X := hX.cg (fun j h1 h2 => h.row hR (rfK_515 j h1 h2) (by omega))
theorem tryC_6 {tp xp n x b y c l : Int} {h : Nat → Int} {F : (Int → Int → Int → Int) → Int} : tryC F tp xp n x b y c l h 6 ≤ h 6 := by
  unfold tryC
  split
  · exact Int.le_refl _
  · show tp * n + xp * F (fex n x b y c l) ≤ h 6
    omega
theorem itF_ind {g : Nat → (Nat → Int) → Nat → Int} {Pr : Nat → (Nat → Int) → Prop} : ∀ (k i : Nat) (h : Nat → Int), Pr i h → (∀ j h, i ≤ j → j < i + k → Pr j h → Pr (j + 1) (g j h)) → Pr (i + k) (itF g k i h)
  | 0, i, h, h0, _ => h0
  | k + 1, i, h, h0, hs => by
    have := itF_ind (g := g) (Pr := Pr) k (i + 1) (g i h) (hs i h (by omega) (by omega) h0) (fun j h' h1 h2 => hs j h' (by omega) (by omega))
    rw [show i + (k + 1) = i + 1 + k by omega]
    exact this
end JRI
