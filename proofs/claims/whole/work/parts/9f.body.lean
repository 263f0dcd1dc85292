section JBody
variable {E E' : jE} {I I' : jI} {P P' : jP} {h m o b L z d : Nat} {xs : Nat → Int32} {a g : Nat → Nat} {σ : jSt}
theorem hd_X6 : ∀ j, j < 17 → defaultValue (jTy 6 j) = if jIsR (jTy 6 j) = true then .null else .int 0 := by
  intro j hj
  rcases j with _|_|_|_|_|_|_|_|_|_|_|_|_|_|_|_|_|j <;> first | rfl | omega
theorem hd_X7 : ∀ j, j < 36 → defaultValue (jTy 7 j) = if jIsR (jTy 7 j) = true then .null else .int 0 := by
  intro j hj
  rcases j with _|_|_|_|_|_|_|_|_|_|_|_|_|_|_|_|_|_|_|_|_|_|_|_|_|_|_|_|_|_|_|_|_|_|_|_|j <;> first | rfl | omega
theorem eSame.x (hE : eSame E E') : eX E' = eX E ∧ eZ E' = eZ E := by
  obtain ⟨L, K, N, rfl⟩ := hE
  exact ⟨rfl, rfl⟩
theorem rfK_A : ∀ j, j ∈ rfK → ∃ z ∈ rfA, z.1 = j := by decide
theorem RfL.mem (hR : RfL E P m a) {j : Nat} (hj : j ∈ rfK) : a j ∈ eL E := by
  obtain ⟨z, hz, rfl⟩ := rfK_A j hj
  exact (hR.2.1 z hz).2.1
theorem RfL.ex (hR : RfL E P m a) (hx : EX E I P E' I' P') : RfL E' P' m a := by
  obtain ⟨⟨a1, a2⟩, a3, a4⟩ := hR
  obtain ⟨b1, b2, b3, b4, b5⟩ := hx m a1
  refine ⟨⟨b1, b2.trans a2⟩, fun z hz => ?_, a4⟩
  obtain ⟨c1, c2, c3, c4⟩ := a3 z hz
  obtain ⟨d1, d2, d3, d4, d5⟩ := hx _ c2
  exact ⟨by rw [b5]; exact c1, d1, d2.trans c3, d3.trans c4⟩
theorem RV.ex (hR : RfL E P m a) (hV : RV I m a σ) (hx : EX E I P E' I' P') : RV I' m a σ := RW.cg hV (fun j hj => (hx _ (hR.mem hj)).2.2.2.1) (fun k _ _ => by rw [(hx m hR.1.1).2.2.2.1])
/-- the law's body from its first instruction -/
theorem law_body (hl : (eX E).stackTraces = false) (hz : eZ E = z) (hL : L ≤ 3072) : jJ E RL cL_law 7 (some .boolean) room_1 (jLZ b L xs z) 0 0 0 [some (jp b), none, none, none, none, none, none] [] I P := by
  refine jJ_new (pc := 0) (ci := 6) dL_law_0 rfl hd_X6 clL_8 itX6 inX6 ⟨Nat.le_of_ble_eq_true rfl, Nat.le_of_ble_eq_true rfl⟩ (fun h hh => ?_)
  refine jJ_dup (pc := 3) dL_law_3 rfl ?_
  have m1 : Cond.methodLink RL 60 yX6_init ∈ jT := jT_mem (tb_1 (List.mem_of_getElem? (i := 24) (by decide +kernel))) rfl
  refine jJ_callNA (pc := 4) (as := []) (d := 3) (mc := 193) (ms := 37108) (b := h) (A := jAO) jLZ_eq jLZ_AO jAO_m dL_law_4 m1 iiX6 inX6 icX6 (pn_i ⟨by decide, by decide⟩ (by decide +kernel)) rfl (Nat.le_of_ble_eq_true rfl) ⟨Nat.le_of_ble_eq_true rfl, Nat.le_of_ble_eq_true rfl, Nat.le_of_ble_eq_true rfl, Nat.le_of_ble_eq_true rfl⟩ (n_House ⟨List.mem_append_right _ List.mem_cons_self, va_up_self _ _ _⟩ (fun k => zI_s) (fun k => zP_s) (by decide)) ?_
  rintro E2 I2 P2 hE2 ⟨g, hS⟩
  have hx2 := hE2.x
  have sx := hS.sx (va_up_self _ _ _)
  refine jJ_astore_n (pc := 7) (ls' := [_, _, _, _, _, _, _]) dL_law_7 (Nat.le_of_ble_eq_true rfl) rfl ?_
  refine jJ_new (pc := 8) (ci := 7) dL_law_8 rfl hd_X7 clL_61 itX7 inX7 ⟨Nat.le_of_ble_eq_true rfl, Nat.le_of_ble_eq_true rfl⟩ (fun m hm => ?_)
  refine jJ_dup (pc := 11) dL_law_11 rfl ?_
  refine jJ_callN (pc := 12) (as := []) (d := 3) (mc := 20) (ms := 40939) (b := m) dL_law_12 niL_63 iiX7 inX7 icX7 (pn_i ⟨by decide, by decide⟩ (by decide +kernel)) rfl (Nat.le_of_ble_eq_true rfl) ⟨Nat.le_of_ble_eq_true rfl, Nat.le_of_ble_eq_true rfl, Nat.le_of_ble_eq_true rfl, Nat.le_of_ble_eq_true rfl⟩ (n_Model ⟨List.mem_append_right _ List.mem_cons_self, va_up_self _ _ _⟩ (by decide)) ?_
  rintro E4 I4 P4 hE4 ⟨a, rs, hRM, hrs⟩
  have hx4 := hE4.x
  have ex4 : EX E2 I2 P2 E4 I4 P4 := fun a' ha' => by
    have hne : a' ≠ m := fun e => hm (by rw [← e]; exact ha')
    obtain ⟨-, -, r3, r4, -⟩ := hRM
    obtain ⟨f1, f2, f3, f4⟩ := r4 a' (List.mem_append_left _ ha')
    refine ⟨by rw [r3]; exact List.mem_append_left _ (List.mem_append_left _ ha'), f1.trans (va_up_ne _ _ hne), f2.trans (va_up_ne _ _ hne), ?_, (f4 hne).trans (zP_n hne)⟩
    rw [f3]
    funext j
    rw [jput_a _ hne, jput_a _ hne, zI_n hne]
  have hst := rf_start (X := fun _ => default) (S := fun _ _ => 0) hRM hrs (va_up_self _ _ _) (fun k => by
    by_cases k4 : k = 21
    · rw [k4, jput_s]; rfl
    · rw [jput_k _ k4]
      by_cases k5 : k = 4
      · rw [k5, jput_s]; rfl
      · rw [jput_k _ k5, zI_s, if_neg (by omega)])
  have hnew : ∀ j, j ∈ rfK → a j ∉ eL E2 := fun j hj hh' => by
    obtain ⟨zz, hzz, rfl⟩ := rfK_A j hj
    obtain ⟨-, -, -, -, -, r6, -⟩ := hRM
    exact (r6 _ (hrs zz hzz)).1 (List.mem_append_left _ hh')
  refine jJ_astore_n (pc := 15) (ls' := [_, _, _, _, _, _, _]) dL_law_15 (Nat.le_of_ble_eq_true rfl) rfl ?_
  refine jJ_iconst (pc := 16) dL_law_16 (by decide) ?_
  refine jJ_newa (pc := 17) (k := 14) (n := 1) dL_law_17 (Or.inr (Or.inr (Or.inr ⟨rfl, rfl⟩))) ac_long (by decide) ⟨Nat.le_of_ble_eq_true rfl, Nat.le_of_ble_eq_true rfl⟩ (fun o ho => ?_)
  have ex5 : EX E4 I4 P4 (eAdd E4 o 14 1) (zI I4 o) (zP P4 o) := EX.add ho
  have sx5 := sx.ex (ex4.tr ex5)
  have hin : ∀ b', cA h g b' → b' ∈ eL E2 := fun b' hb' => by
    rcases hb' with rfl | ⟨i, hi, rfl⟩
    · exact sx.1.1
    · exact (sx.2.1 i hi).1
  have hG : GS (eAdd E4 o 14 1) (cA h g) h m o (fun j => g (ci j)) (fun k => g (129 + 4 * k)) (fun k i => g (129 + 4 * k + 1 + i)) (fun k => g (132 + 4 * k)) a (zI I4 o) (zP P4 o) ([], fun _ => 0, fun _ => default, nb0, fun _ _ => 0, []) := by
    refine ⟨⟨_, _, sx5.cl, sx5.cd, cA_ok, sx5.cs⟩, hst.1.ex ex5, RV.ex (σ := ([], fun _ => 0, fun _ => default, nb0, fun _ _ => 0, [])) hst.1 hst.2 ex5, WS_0, fun b' hb' => ⟨fun e => hm (by rw [← e]; exact hin b' hb'), fun j hj e => hnew j hj (by rw [← e]; exact hin b' hb')⟩, ⟨List.mem_append_right _ List.mem_cons_self, va_up_self _ _ _, va_up_self _ _ _⟩, fun hb' => ho (ex4 o (hin o hb')).1, fun e => ho (by rw [e]; exact hst.1.1.1), fun j hj e => ho (by rw [e]; exact hst.1.mem hj)⟩
  refine jJ_astore_n (pc := 19) (ls' := [_, _, _, _, _, _, _]) dL_law_19 (Nat.le_of_ble_eq_true rfl) rfl ?_
  refine jJ_iconst (pc := 20) dL_law_20 (by decide) ?_
  refine jJ_istore (pc := 21) (ls' := [_, _, _, _, _, _, _]) dL_law_21 (Nat.le_of_ble_eq_true rfl) rfl ?_
  refine law_loop (by show (eX E4).stackTraces = false; rw [hx4.1]; show (eX E2).stackTraces = false; rw [hx2.1]; exact hl) (by show eZ E4 = z; rw [hx4.2]; show eZ E2 = z; rw [hx2.2]; exact hz) hL 512 0 _ _ _ _ _ _ _ (by omega) (by decide) ?_ ?_ hG
  · exact Nat.le_of_ble_eq_true rfl
  · exact Nat.le_of_ble_eq_true rfl
end JBody
