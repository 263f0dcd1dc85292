section JRPu
variable {E : jE} {I : jI} {P : jP} {d m : Nat} {a : Nat → Nat}
theorem RfL.nm (h : RfL E P m a) {j : Nat} (hj : j ∈ rfK) : a j ≠ m := by
  have f : ∀ k, k ∈ rfK → ∃ z ∈ rfA, z.1 = k ∧ z.2.1 ≠ 7 := by decide
  obtain ⟨z, hz, rfl, h7⟩ := f j hj
  exact jne (h.2.1 z hz).2.2.1 h.1.2 h7
theorem RT.cg {I' : jI} {t : Nat} {x : TX} (h : RT I a t x) (e : ∀ j, 6 ≤ j → j ≤ 15 → I' (a j) = I (a j)) : RT I' a t x := by
  unfold RT at *
  rw [e 6 (by decide) (by decide), e 7 (by decide) (by decide), e 8 (by decide) (by decide), e 9 (by decide) (by decide), e 10 (by decide) (by decide), e 11 (by decide) (by decide), e 12 (by decide) (by decide), e 13 (by decide) (by decide), e 14 (by decide) (by decide), e 15 (by decide) (by decide)]
  exact h
/-- the reference's TEXTS -/
def RTs (I : jI) (a : Nat → Nat) (X : Nat → TX) : Prop := ∀ t, t < 12 → I (a 5) t ≠ 0 → RT I a t (X t) ∧ WX (X t)
theorem RTs.cg {I' : jI} {X : Nat → TX} (h : RTs I a X) (e : ∀ j, 5 ≤ j → j ≤ 15 → I' (a j) = I (a j)) : RTs I' a X := fun t ht h5 => by
  rw [e 5 (by decide) (by decide)] at h5
  exact ⟨(h t ht h5).1.cg (fun j h1 h2 => e j (by omega) h2), (h t ht h5).2⟩
theorem rfK_515 : ∀ j : Nat, 5 ≤ j → j ≤ 15 → j ∈ rfK := fun j h1 h2 => by
  have : j = 5 ∨ j = 6 ∨ j = 7 ∨ j = 8 ∨ j = 9 ∨ j = 10 ∨ j = 11 ∨ j = 12 ∨ j = 13 ∨ j = 14 ∨ j = 15 := by omega
  rcases this with rfl | rfl | rfl | rfl | rfl | rfl | rfl | rfl | rfl | rfl | rfl <;> decide
theorem RTs.pm {X : Nat → TX} {k : Nat} {v : Int} (h : RTs I a X) (hR : RfL E P m a) : RTs (jput I m k v) a X := h.cg (fun j h1 h2 => jput_row (hR.nm (rfK_515 j h1 h2)))
theorem rgT {w : Int} : rgM (jput I m 0 0) m 1 w = jput I m 0 0 := by rw [rgM_0 (Or.inr rfl)]; rfl
theorem rgF {w : Int} : rgM (jput I m 0 0) m 0 w = jput I m 0 w := by rw [rgM_0 (Or.inl rfl)]; rfl
theorem jb_00 {i : Decidable ((0 : Int) = 0)} : @jb ((0 : Int) = 0) i = 1 := by unfold jb; exact if_pos rfl
theorem jb_10 {i : Decidable ((1 : Int) = 0)} : @jb ((1 : Int) = 0) i = 0 := by unfold jb; exact if_neg (by omega)
theorem jb_T {i : Decidable True} : @jb True i = 1 := by unfold jb; exact if_pos trivial
theorem jb_F {i : Decidable False} : @jb False i = 0 := by unfold jb; exact if_neg id
theorem jput_jput {I : jI} {a k : Nat} {v w : Int} : jput (jput I a k v) a k w = jput I a k w := by
  funext b j
  simp only [jput]
  split <;> rfl
theorem r_fault {w : Int} (hR : RfL E P m a) (hd : 1 ≤ d) : jC E yX7_fault cX7_fault 2 (some .int) d [jp m, ji w] I P (jD (some (ji (if w = 0 then I m 3 else if w = 1 then I m 4 else 0))) (jput I m 0 (if w = 0 ∨ w = 1 then 0 else 1)) P) := by
  refine jC_intro (by decide +kernel) (by simp [jc, va_rf, Value.category]) (Nat.le_of_ble_eq_true rfl) ?_
  refine jJ_aload_n (pc := 0) dX7_fault_0 rfl ?_
  refine jJ_iconst (pc := 1) dX7_fault_1 (by decide) ?_
  refine jJ_puti (pc := 2) dX7_fault_2 fX7_78w rfl ⟨rfl, rfl⟩ hR.1 ?_
  try simp only [rgT, rgF, jput_s, jb_00, jb_10, jb_T, jb_F, jput_k I (show (3 : Nat) ≠ 0 by decide), jput_k I (show (4 : Nat) ≠ 0 by decide)]
  refine jJ_aload_n (pc := 5) dX7_fault_5 rfl ?_
  refine jJ_iload_n (pc := 6) dX7_fault_6 rfl ?_
  refine jJ_if_eq (pc := 7) (tgt := 15) dX7_fault_7 (by decide) (fun c7 => ?_) (fun c7 => ?_)
  · refine jJ_iconst (pc := 15) dX7_fault_15 (by decide) ?_
    refine jJ_goto (pc := 16) (tgt := 20) dX7_fault_16 (by decide) ?_
    refine jJ_iconst (pc := 20) dX7_fault_20 (by decide) ?_
    refine jJ_callVd (pc := 21) (as := [_, _]) dX7_fault_21 mX7_208 (jRcv_of hR.1 rfl rfl) (Nat.le_of_ble_eq_true rfl) (jRm_ok (by omega) (by decide)) (r_right (d := d - 1) hR) ?_
    try simp only [rgT, rgF, jput_s, jb_00, jb_10, jb_T, jb_F, jput_k I (show (3 : Nat) ≠ 0 by decide), jput_k I (show (4 : Nat) ≠ 0 by decide)]
    refine jJ_if_ne (pc := 24) (tgt := 29) dX7_fault_24 (by decide) (fun c24 => ?_) (fun c24 => ?_)
    · refine jJ_iload_n (pc := 29) dX7_fault_29 rfl ?_
      refine jJ_if_ne (pc := 30) (tgt := 40) dX7_fault_30 (by decide) (fun c30 => ?_) (fun c30 => ?_)
      · refine jJ_aload_n (pc := 40) dX7_fault_40 rfl ?_
        refine jJ_geti (pc := 41) dX7_fault_41 fX7_13 rfl hR.1 ?_
        try simp only [rgT, rgF, jput_s, jb_00, jb_10, jb_T, jb_F, jput_k I (show (3 : Nat) ≠ 0 by decide), jput_k I (show (4 : Nat) ≠ 0 by decide)]
        refine jJ_iret (pc := 44) dX7_fault_44 rfl ?_
        first | (exfalso; omega) | exact ⟨by (repeat' split) <;> first | rfl | (exfalso; omega), by (repeat' split) <;> first | rfl | (exfalso; omega), rfl⟩
      · refine jJ_aload_n (pc := 33) dX7_fault_33 rfl ?_
        refine jJ_geti (pc := 34) dX7_fault_34 fX7_119 rfl hR.1 ?_
        try simp only [rgT, rgF, jput_s, jb_00, jb_10, jb_T, jb_F, jput_k I (show (3 : Nat) ≠ 0 by decide), jput_k I (show (4 : Nat) ≠ 0 by decide)]
        refine jJ_goto (pc := 37) (tgt := 44) dX7_fault_37 (by decide) ?_
        refine jJ_iret (pc := 44) dX7_fault_44 rfl ?_
        first | (exfalso; omega) | exact ⟨by (repeat' split) <;> first | rfl | (exfalso; omega), by (repeat' split) <;> first | rfl | (exfalso; omega), rfl⟩
    · refine jJ_iconst (pc := 27) dX7_fault_27 (by decide) ?_
      refine jJ_iret (pc := 28) dX7_fault_28 rfl ?_
      first | (exfalso; omega) | exact ⟨by (repeat' split) <;> first | rfl | (exfalso; omega), by (repeat' split) <;> first | rfl | (exfalso; omega), rfl⟩
  · refine jJ_iload_n (pc := 10) dX7_fault_10 rfl ?_
    refine jJ_iconst (pc := 11) dX7_fault_11 (by decide) ?_
    refine jJ_icmp_ne (pc := 12) (tgt := 19) dX7_fault_12 (by decide) (fun c12 => ?_) (fun c12 => ?_)
    · refine jJ_iconst (pc := 19) dX7_fault_19 (by decide) ?_
      refine jJ_iconst (pc := 20) dX7_fault_20 (by decide) ?_
      refine jJ_callVd (pc := 21) (as := [_, _]) dX7_fault_21 mX7_208 (jRcv_of hR.1 rfl rfl) (Nat.le_of_ble_eq_true rfl) (jRm_ok (by omega) (by decide)) (r_right (d := d - 1) hR) ?_
      try simp only [rgT, rgF, jput_s, jb_00, jb_10, jb_T, jb_F, jput_k I (show (3 : Nat) ≠ 0 by decide), jput_k I (show (4 : Nat) ≠ 0 by decide)]
      refine jJ_if_ne (pc := 24) (tgt := 29) dX7_fault_24 (by decide) (fun c24 => ?_) (fun c24 => ?_)
      · refine jJ_iload_n (pc := 29) dX7_fault_29 rfl ?_
        refine jJ_if_ne (pc := 30) (tgt := 40) dX7_fault_30 (by decide) (fun c30 => ?_) (fun c30 => ?_)
        · refine jJ_aload_n (pc := 40) dX7_fault_40 rfl ?_
          refine jJ_geti (pc := 41) dX7_fault_41 fX7_13 rfl hR.1 ?_
          try simp only [rgT, rgF, jput_s, jb_00, jb_10, jb_T, jb_F, jput_k I (show (3 : Nat) ≠ 0 by decide), jput_k I (show (4 : Nat) ≠ 0 by decide)]
          refine jJ_iret (pc := 44) dX7_fault_44 rfl ?_
          first | (exfalso; omega) | exact ⟨by (repeat' split) <;> first | rfl | (exfalso; omega), by (repeat' split) <;> first | rfl | (exfalso; omega), rfl⟩
        · refine jJ_aload_n (pc := 33) dX7_fault_33 rfl ?_
          refine jJ_geti (pc := 34) dX7_fault_34 fX7_119 rfl hR.1 ?_
          try simp only [rgT, rgF, jput_s, jb_00, jb_10, jb_T, jb_F, jput_k I (show (3 : Nat) ≠ 0 by decide), jput_k I (show (4 : Nat) ≠ 0 by decide)]
          refine jJ_goto (pc := 37) (tgt := 44) dX7_fault_37 (by decide) ?_
          refine jJ_iret (pc := 44) dX7_fault_44 rfl ?_
          first | (exfalso; omega) | exact ⟨by (repeat' split) <;> first | rfl | (exfalso; omega), by (repeat' split) <;> first | rfl | (exfalso; omega), rfl⟩
      · refine jJ_iconst (pc := 27) dX7_fault_27 (by decide) ?_
        refine jJ_iret (pc := 28) dX7_fault_28 rfl ?_
        first | (exfalso; omega) | exact ⟨by (repeat' split) <;> first | rfl | (exfalso; omega), by (repeat' split) <;> first | rfl | (exfalso; omega), rfl⟩
    · refine jJ_iconst (pc := 15) dX7_fault_15 (by decide) ?_
      refine jJ_goto (pc := 16) (tgt := 20) dX7_fault_16 (by decide) ?_
      refine jJ_iconst (pc := 20) dX7_fault_20 (by decide) ?_
      refine jJ_callVd (pc := 21) (as := [_, _]) dX7_fault_21 mX7_208 (jRcv_of hR.1 rfl rfl) (Nat.le_of_ble_eq_true rfl) (jRm_ok (by omega) (by decide)) (r_right (d := d - 1) hR) ?_
      try simp only [rgT, rgF, jput_s, jb_00, jb_10, jb_T, jb_F, jput_k I (show (3 : Nat) ≠ 0 by decide), jput_k I (show (4 : Nat) ≠ 0 by decide)]
      refine jJ_if_ne (pc := 24) (tgt := 29) dX7_fault_24 (by decide) (fun c24 => ?_) (fun c24 => ?_)
      · refine jJ_iload_n (pc := 29) dX7_fault_29 rfl ?_
        refine jJ_if_ne (pc := 30) (tgt := 40) dX7_fault_30 (by decide) (fun c30 => ?_) (fun c30 => ?_)
        · refine jJ_aload_n (pc := 40) dX7_fault_40 rfl ?_
          refine jJ_geti (pc := 41) dX7_fault_41 fX7_13 rfl hR.1 ?_
          try simp only [rgT, rgF, jput_s, jb_00, jb_10, jb_T, jb_F, jput_k I (show (3 : Nat) ≠ 0 by decide), jput_k I (show (4 : Nat) ≠ 0 by decide)]
          refine jJ_iret (pc := 44) dX7_fault_44 rfl ?_
          first | (exfalso; omega) | exact ⟨by (repeat' split) <;> first | rfl | (exfalso; omega), by (repeat' split) <;> first | rfl | (exfalso; omega), rfl⟩
        · refine jJ_aload_n (pc := 33) dX7_fault_33 rfl ?_
          refine jJ_geti (pc := 34) dX7_fault_34 fX7_119 rfl hR.1 ?_
          try simp only [rgT, rgF, jput_s, jb_00, jb_10, jb_T, jb_F, jput_k I (show (3 : Nat) ≠ 0 by decide), jput_k I (show (4 : Nat) ≠ 0 by decide)]
          refine jJ_goto (pc := 37) (tgt := 44) dX7_fault_37 (by decide) ?_
          refine jJ_iret (pc := 44) dX7_fault_44 rfl ?_
          first | (exfalso; omega) | exact ⟨by (repeat' split) <;> first | rfl | (exfalso; omega), by (repeat' split) <;> first | rfl | (exfalso; omega), rfl⟩
      · refine jJ_iconst (pc := 27) dX7_fault_27 (by decide) ?_
        refine jJ_iret (pc := 28) dX7_fault_28 rfl ?_
        first | (exfalso; omega) | exact ⟨by (repeat' split) <;> first | rfl | (exfalso; omega), by (repeat' split) <;> first | rfl | (exfalso; omega), rfl⟩
theorem r_price {w v : Int} (hR : RfL E P m a) (hd : 1 ≤ d) : jC E yX7_price cX7_price 4 (some .int) d [jp m, ji w, ji v] I P (jD (some (ji (if 0 ≤ w ∧ w ≤ 1 ∧ 0 ≤ v ∧ v ≤ 100 then I (a 17) w.toNat else 0))) (if 0 ≤ w ∧ w ≤ 1 ∧ 0 ≤ v ∧ v ≤ 100 then jput (jput I m 0 0) (a 17) w.toNat v else jput I m 0 1) P) := by
  have e17 := hR.n17
  refine jC_intro (by decide +kernel) (by simp [jc, va_rf, Value.category]) (Nat.le_of_ble_eq_true rfl) ?_
  refine jJ_aload_n (pc := 0) dX7_price_0 rfl ?_
  refine jJ_iconst (pc := 1) dX7_price_1 (by decide) ?_
  refine jJ_puti (pc := 2) dX7_price_2 fX7_78w rfl ⟨rfl, rfl⟩ hR.1 ?_
  try simp only [rgT, rgF, jput_s, jb_00, jb_10, jb_T, jb_F, jput_a I e17]
  refine jJ_aload_n (pc := 5) dX7_price_5 rfl ?_
  refine jJ_iload_n (pc := 6) dX7_price_6 rfl ?_
  refine jJ_if_lt (pc := 7) (tgt := 29) dX7_price_7 (by decide) (fun c7 => ?_) (fun c7 => ?_)
  · refine jJ_iconst (pc := 29) dX7_price_29 (by decide) ?_
    refine jJ_iconst (pc := 30) dX7_price_30 (by decide) ?_
    refine jJ_callVd (pc := 31) (as := [_, _]) dX7_price_31 mX7_208 (jRcv_of hR.1 rfl rfl) (Nat.le_of_ble_eq_true rfl) (jRm_ok (by omega) (by decide)) (r_right (d := d - 1) hR) ?_
    try simp only [rgT, rgF, jput_s, jb_00, jb_10, jb_T, jb_F, jput_a I e17]
    refine jJ_if_ne (pc := 34) (tgt := 39) dX7_price_34 (by decide) (fun c34 => ?_) (fun c34 => ?_)
    · refine jJ_aload_n (pc := 39) dX7_price_39 rfl ?_
      refine jJ_getr (pc := 40) dX7_price_40 fX7_51 rfl hR.1 hR.p17 ?_
      try simp only [rgT, rgF, jput_s, jb_00, jb_10, jb_T, jb_F, jput_a I e17]
      refine jJ_iload_n (pc := 43) dX7_price_43 rfl ?_
      refine jJ_iald (pc := 44) dX7_price_44 hR.a17 ⟨by omega, by omega⟩ ?_
      try simp only [rgT, rgF, jput_s, jb_00, jb_10, jb_T, jb_F, jput_a I e17]
      refine jJ_istore_n (pc := 45) (ls' := [_, _, _, _]) dX7_price_45 (Nat.le_of_ble_eq_true rfl) rfl ?_
      refine jJ_aload_n (pc := 46) dX7_price_46 rfl ?_
      refine jJ_getr (pc := 47) dX7_price_47 fX7_51 rfl hR.1 hR.p17 ?_
      try simp only [rgT, rgF, jput_s, jb_00, jb_10, jb_T, jb_F, jput_a I e17]
      refine jJ_iload_n (pc := 50) dX7_price_50 rfl ?_
      refine jJ_iload_n (pc := 51) dX7_price_51 rfl ?_
      refine jJ_iast (pc := 52) dX7_price_52 hR.a17 ⟨by omega, by omega⟩ ?_
      try simp only [rgT, rgF, jput_s, jb_00, jb_10, jb_T, jb_F, jput_a I e17]
      refine jJ_iload_n (pc := 53) dX7_price_53 rfl ?_
      refine jJ_iret (pc := 54) dX7_price_54 rfl ?_
      first | (exfalso; omega) | exact ⟨by (repeat' split) <;> first | rfl | (exfalso; omega), by (repeat' split) <;> first | rfl | (exfalso; omega), rfl⟩
    · refine jJ_iconst (pc := 37) dX7_price_37 (by decide) ?_
      refine jJ_iret (pc := 38) dX7_price_38 rfl ?_
      first | (exfalso; omega) | exact ⟨by (repeat' split) <;> first | rfl | (exfalso; omega), by (repeat' split) <;> first | rfl | (exfalso; omega), rfl⟩
  · refine jJ_iload_n (pc := 10) dX7_price_10 rfl ?_
    refine jJ_iconst (pc := 11) dX7_price_11 (by decide) ?_
    refine jJ_icmp_gt (pc := 12) (tgt := 29) dX7_price_12 (by decide) (fun c12 => ?_) (fun c12 => ?_)
    · refine jJ_iconst (pc := 29) dX7_price_29 (by decide) ?_
      refine jJ_iconst (pc := 30) dX7_price_30 (by decide) ?_
      refine jJ_callVd (pc := 31) (as := [_, _]) dX7_price_31 mX7_208 (jRcv_of hR.1 rfl rfl) (Nat.le_of_ble_eq_true rfl) (jRm_ok (by omega) (by decide)) (r_right (d := d - 1) hR) ?_
      try simp only [rgT, rgF, jput_s, jb_00, jb_10, jb_T, jb_F, jput_a I e17]
      refine jJ_if_ne (pc := 34) (tgt := 39) dX7_price_34 (by decide) (fun c34 => ?_) (fun c34 => ?_)
      · refine jJ_aload_n (pc := 39) dX7_price_39 rfl ?_
        refine jJ_getr (pc := 40) dX7_price_40 fX7_51 rfl hR.1 hR.p17 ?_
        try simp only [rgT, rgF, jput_s, jb_00, jb_10, jb_T, jb_F, jput_a I e17]
        refine jJ_iload_n (pc := 43) dX7_price_43 rfl ?_
        refine jJ_iald (pc := 44) dX7_price_44 hR.a17 ⟨by omega, by omega⟩ ?_
        try simp only [rgT, rgF, jput_s, jb_00, jb_10, jb_T, jb_F, jput_a I e17]
        refine jJ_istore_n (pc := 45) (ls' := [_, _, _, _]) dX7_price_45 (Nat.le_of_ble_eq_true rfl) rfl ?_
        refine jJ_aload_n (pc := 46) dX7_price_46 rfl ?_
        refine jJ_getr (pc := 47) dX7_price_47 fX7_51 rfl hR.1 hR.p17 ?_
        try simp only [rgT, rgF, jput_s, jb_00, jb_10, jb_T, jb_F, jput_a I e17]
        refine jJ_iload_n (pc := 50) dX7_price_50 rfl ?_
        refine jJ_iload_n (pc := 51) dX7_price_51 rfl ?_
        refine jJ_iast (pc := 52) dX7_price_52 hR.a17 ⟨by omega, by omega⟩ ?_
        try simp only [rgT, rgF, jput_s, jb_00, jb_10, jb_T, jb_F, jput_a I e17]
        refine jJ_iload_n (pc := 53) dX7_price_53 rfl ?_
        refine jJ_iret (pc := 54) dX7_price_54 rfl ?_
        first | (exfalso; omega) | exact ⟨by (repeat' split) <;> first | rfl | (exfalso; omega), by (repeat' split) <;> first | rfl | (exfalso; omega), rfl⟩
      · refine jJ_iconst (pc := 37) dX7_price_37 (by decide) ?_
        refine jJ_iret (pc := 38) dX7_price_38 rfl ?_
        first | (exfalso; omega) | exact ⟨by (repeat' split) <;> first | rfl | (exfalso; omega), by (repeat' split) <;> first | rfl | (exfalso; omega), rfl⟩
    · refine jJ_iload_n (pc := 15) dX7_price_15 rfl ?_
      refine jJ_if_lt (pc := 16) (tgt := 29) dX7_price_16 (by decide) (fun c16 => ?_) (fun c16 => ?_)
      · refine jJ_iconst (pc := 29) dX7_price_29 (by decide) ?_
        refine jJ_iconst (pc := 30) dX7_price_30 (by decide) ?_
        refine jJ_callVd (pc := 31) (as := [_, _]) dX7_price_31 mX7_208 (jRcv_of hR.1 rfl rfl) (Nat.le_of_ble_eq_true rfl) (jRm_ok (by omega) (by decide)) (r_right (d := d - 1) hR) ?_
        try simp only [rgT, rgF, jput_s, jb_00, jb_10, jb_T, jb_F, jput_a I e17]
        refine jJ_if_ne (pc := 34) (tgt := 39) dX7_price_34 (by decide) (fun c34 => ?_) (fun c34 => ?_)
        · refine jJ_aload_n (pc := 39) dX7_price_39 rfl ?_
          refine jJ_getr (pc := 40) dX7_price_40 fX7_51 rfl hR.1 hR.p17 ?_
          try simp only [rgT, rgF, jput_s, jb_00, jb_10, jb_T, jb_F, jput_a I e17]
          refine jJ_iload_n (pc := 43) dX7_price_43 rfl ?_
          refine jJ_iald (pc := 44) dX7_price_44 hR.a17 ⟨by omega, by omega⟩ ?_
          try simp only [rgT, rgF, jput_s, jb_00, jb_10, jb_T, jb_F, jput_a I e17]
          refine jJ_istore_n (pc := 45) (ls' := [_, _, _, _]) dX7_price_45 (Nat.le_of_ble_eq_true rfl) rfl ?_
          refine jJ_aload_n (pc := 46) dX7_price_46 rfl ?_
          refine jJ_getr (pc := 47) dX7_price_47 fX7_51 rfl hR.1 hR.p17 ?_
          try simp only [rgT, rgF, jput_s, jb_00, jb_10, jb_T, jb_F, jput_a I e17]
          refine jJ_iload_n (pc := 50) dX7_price_50 rfl ?_
          refine jJ_iload_n (pc := 51) dX7_price_51 rfl ?_
          refine jJ_iast (pc := 52) dX7_price_52 hR.a17 ⟨by omega, by omega⟩ ?_
          try simp only [rgT, rgF, jput_s, jb_00, jb_10, jb_T, jb_F, jput_a I e17]
          refine jJ_iload_n (pc := 53) dX7_price_53 rfl ?_
          refine jJ_iret (pc := 54) dX7_price_54 rfl ?_
          first | (exfalso; omega) | exact ⟨by (repeat' split) <;> first | rfl | (exfalso; omega), by (repeat' split) <;> first | rfl | (exfalso; omega), rfl⟩
        · refine jJ_iconst (pc := 37) dX7_price_37 (by decide) ?_
          refine jJ_iret (pc := 38) dX7_price_38 rfl ?_
          first | (exfalso; omega) | exact ⟨by (repeat' split) <;> first | rfl | (exfalso; omega), by (repeat' split) <;> first | rfl | (exfalso; omega), rfl⟩
      · refine jJ_iload_n (pc := 19) dX7_price_19 rfl ?_
        refine jJ_bipush (pc := 20) dX7_price_20 (by decide) ?_
        refine jJ_icmp_gt (pc := 22) (tgt := 29) dX7_price_22 (by decide) (fun c22 => ?_) (fun c22 => ?_)
        · refine jJ_iconst (pc := 29) dX7_price_29 (by decide) ?_
          refine jJ_iconst (pc := 30) dX7_price_30 (by decide) ?_
          refine jJ_callVd (pc := 31) (as := [_, _]) dX7_price_31 mX7_208 (jRcv_of hR.1 rfl rfl) (Nat.le_of_ble_eq_true rfl) (jRm_ok (by omega) (by decide)) (r_right (d := d - 1) hR) ?_
          try simp only [rgT, rgF, jput_s, jb_00, jb_10, jb_T, jb_F, jput_a I e17]
          refine jJ_if_ne (pc := 34) (tgt := 39) dX7_price_34 (by decide) (fun c34 => ?_) (fun c34 => ?_)
          · refine jJ_aload_n (pc := 39) dX7_price_39 rfl ?_
            refine jJ_getr (pc := 40) dX7_price_40 fX7_51 rfl hR.1 hR.p17 ?_
            try simp only [rgT, rgF, jput_s, jb_00, jb_10, jb_T, jb_F, jput_a I e17]
            refine jJ_iload_n (pc := 43) dX7_price_43 rfl ?_
            refine jJ_iald (pc := 44) dX7_price_44 hR.a17 ⟨by omega, by omega⟩ ?_
            try simp only [rgT, rgF, jput_s, jb_00, jb_10, jb_T, jb_F, jput_a I e17]
            refine jJ_istore_n (pc := 45) (ls' := [_, _, _, _]) dX7_price_45 (Nat.le_of_ble_eq_true rfl) rfl ?_
            refine jJ_aload_n (pc := 46) dX7_price_46 rfl ?_
            refine jJ_getr (pc := 47) dX7_price_47 fX7_51 rfl hR.1 hR.p17 ?_
            try simp only [rgT, rgF, jput_s, jb_00, jb_10, jb_T, jb_F, jput_a I e17]
            refine jJ_iload_n (pc := 50) dX7_price_50 rfl ?_
            refine jJ_iload_n (pc := 51) dX7_price_51 rfl ?_
            refine jJ_iast (pc := 52) dX7_price_52 hR.a17 ⟨by omega, by omega⟩ ?_
            try simp only [rgT, rgF, jput_s, jb_00, jb_10, jb_T, jb_F, jput_a I e17]
            refine jJ_iload_n (pc := 53) dX7_price_53 rfl ?_
            refine jJ_iret (pc := 54) dX7_price_54 rfl ?_
            first | (exfalso; omega) | exact ⟨by (repeat' split) <;> first | rfl | (exfalso; omega), by (repeat' split) <;> first | rfl | (exfalso; omega), rfl⟩
          · refine jJ_iconst (pc := 37) dX7_price_37 (by decide) ?_
            refine jJ_iret (pc := 38) dX7_price_38 rfl ?_
            first | (exfalso; omega) | exact ⟨by (repeat' split) <;> first | rfl | (exfalso; omega), by (repeat' split) <;> first | rfl | (exfalso; omega), rfl⟩
        · refine jJ_iconst (pc := 25) dX7_price_25 (by decide) ?_
          refine jJ_goto (pc := 26) (tgt := 30) dX7_price_26 (by decide) ?_
          refine jJ_iconst (pc := 30) dX7_price_30 (by decide) ?_
          refine jJ_callVd (pc := 31) (as := [_, _]) dX7_price_31 mX7_208 (jRcv_of hR.1 rfl rfl) (Nat.le_of_ble_eq_true rfl) (jRm_ok (by omega) (by decide)) (r_right (d := d - 1) hR) ?_
          try simp only [rgT, rgF, jput_s, jb_00, jb_10, jb_T, jb_F, jput_a I e17]
          refine jJ_if_ne (pc := 34) (tgt := 39) dX7_price_34 (by decide) (fun c34 => ?_) (fun c34 => ?_)
          · refine jJ_aload_n (pc := 39) dX7_price_39 rfl ?_
            refine jJ_getr (pc := 40) dX7_price_40 fX7_51 rfl hR.1 hR.p17 ?_
            try simp only [rgT, rgF, jput_s, jb_00, jb_10, jb_T, jb_F, jput_a I e17]
            refine jJ_iload_n (pc := 43) dX7_price_43 rfl ?_
            refine jJ_iald (pc := 44) dX7_price_44 hR.a17 ⟨by omega, by omega⟩ ?_
            try simp only [rgT, rgF, jput_s, jb_00, jb_10, jb_T, jb_F, jput_a I e17]
            refine jJ_istore_n (pc := 45) (ls' := [_, _, _, _]) dX7_price_45 (Nat.le_of_ble_eq_true rfl) rfl ?_
            refine jJ_aload_n (pc := 46) dX7_price_46 rfl ?_
            refine jJ_getr (pc := 47) dX7_price_47 fX7_51 rfl hR.1 hR.p17 ?_
            try simp only [rgT, rgF, jput_s, jb_00, jb_10, jb_T, jb_F, jput_a I e17]
            refine jJ_iload_n (pc := 50) dX7_price_50 rfl ?_
            refine jJ_iload_n (pc := 51) dX7_price_51 rfl ?_
            refine jJ_iast (pc := 52) dX7_price_52 hR.a17 ⟨by omega, by omega⟩ ?_
            try simp only [rgT, rgF, jput_s, jb_00, jb_10, jb_T, jb_F, jput_a I e17]
            refine jJ_iload_n (pc := 53) dX7_price_53 rfl ?_
            refine jJ_iret (pc := 54) dX7_price_54 rfl ?_
            first | (exfalso; omega) | exact ⟨by (repeat' split) <;> first | rfl | (exfalso; omega), by (repeat' split) <;> first | rfl | (exfalso; omega), rfl⟩
          · refine jJ_iconst (pc := 37) dX7_price_37 (by decide) ?_
            refine jJ_iret (pc := 38) dX7_price_38 rfl ?_
            first | (exfalso; omega) | exact ⟨by (repeat' split) <;> first | rfl | (exfalso; omega), by (repeat' split) <;> first | rfl | (exfalso; omega), rfl⟩
theorem r_habit {k w : Int} (hR : RfL E P m a) (hd : 1 ≤ d) : jC E yX7_habit cX7_habit 3 (some .int) d [jp m, ji k, ji w] I P (jD (some (ji (if 0 ≤ k ∧ k ≤ 15 ∧ 0 ≤ w ∧ w ≤ 7 then (if I m 16 = 0 then -1 else I (a 18) (8 * k + w).toNat) else 0))) (jput I m 0 (if 0 ≤ k ∧ k ≤ 15 ∧ 0 ≤ w ∧ w ≤ 7 then 0 else 1)) P) := by
  have e18 := hR.n18
  refine jC_intro (by decide +kernel) (by simp [jc, va_rf, Value.category]) (Nat.le_of_ble_eq_true rfl) ?_
  refine jJ_aload_n (pc := 0) dX7_habit_0 rfl ?_
  refine jJ_iconst (pc := 1) dX7_habit_1 (by decide) ?_
  refine jJ_puti (pc := 2) dX7_habit_2 fX7_78w rfl ⟨rfl, rfl⟩ hR.1 ?_
  try simp only [rgT, rgF, jput_s, jb_00, jb_10, jb_T, jb_F, jput_a I e18, jput_k I (show (16 : Nat) ≠ 0 by decide)]
  refine jJ_aload_n (pc := 5) dX7_habit_5 rfl ?_
  refine jJ_iload_n (pc := 6) dX7_habit_6 rfl ?_
  refine jJ_if_lt (pc := 7) (tgt := 30) dX7_habit_7 (by decide) (fun c7 => ?_) (fun c7 => ?_)
  · refine jJ_iconst (pc := 30) dX7_habit_30 (by decide) ?_
    refine jJ_iconst (pc := 31) dX7_habit_31 (by decide) ?_
    refine jJ_callVd (pc := 32) (as := [_, _]) dX7_habit_32 mX7_208 (jRcv_of hR.1 rfl rfl) (Nat.le_of_ble_eq_true rfl) (jRm_ok (by omega) (by decide)) (r_right (d := d - 1) hR) ?_
    try simp only [rgT, rgF, jput_s, jb_00, jb_10, jb_T, jb_F, jput_a I e18, jput_k I (show (16 : Nat) ≠ 0 by decide)]
    refine jJ_if_ne (pc := 35) (tgt := 40) dX7_habit_35 (by decide) (fun c35 => ?_) (fun c35 => ?_)
    · refine jJ_aload_n (pc := 40) dX7_habit_40 rfl ?_
      refine jJ_geti (pc := 41) dX7_habit_41 fX7_257 rfl hR.1 ?_
      try simp only [rgT, rgF, jput_s, jb_00, jb_10, jb_T, jb_F, jput_a I e18, jput_k I (show (16 : Nat) ≠ 0 by decide)]
      refine jJ_if_eq (pc := 44) (tgt := 61) dX7_habit_44 (by decide) (fun c44 => ?_) (fun c44 => ?_)
      · refine jJ_iconst (pc := 61) dX7_habit_61 (by decide) ?_
        refine jJ_iret (pc := 62) dX7_habit_62 rfl ?_
        first | (exfalso; omega) | exact ⟨by (repeat' split) <;> first | rfl | (exfalso; omega), by (repeat' split) <;> first | rfl | (exfalso; omega), rfl⟩
      · refine jJ_aload_n (pc := 47) dX7_habit_47 rfl ?_
        refine jJ_getr (pc := 48) dX7_habit_48 fX7_54 rfl hR.1 hR.p18 ?_
        try simp only [rgT, rgF, jput_s, jb_00, jb_10, jb_T, jb_F, jput_a I e18, jput_k I (show (16 : Nat) ≠ 0 by decide)]
        refine jJ_bipush (pc := 51) dX7_habit_51 (by decide) ?_
        refine jJ_iload_n (pc := 53) dX7_habit_53 rfl ?_
        refine jJ_imul (pc := 54) dX7_habit_54 ⟨by omega, by omega⟩ ?_
        refine jJ_iload_n (pc := 55) dX7_habit_55 rfl ?_
        refine jJ_iadd (pc := 56) dX7_habit_56 ⟨by omega, by omega⟩ ?_
        refine jJ_iald (pc := 57) dX7_habit_57 hR.a18 ⟨by omega, by omega⟩ ?_
        try simp only [rgT, rgF, jput_s, jb_00, jb_10, jb_T, jb_F, jput_a I e18, jput_k I (show (16 : Nat) ≠ 0 by decide)]
        refine jJ_goto (pc := 58) (tgt := 62) dX7_habit_58 (by decide) ?_
        refine jJ_iret (pc := 62) dX7_habit_62 rfl ?_
        first | (exfalso; omega) | exact ⟨by (repeat' split) <;> first | rfl | (exfalso; omega), by (repeat' split) <;> first | rfl | (exfalso; omega), rfl⟩
    · refine jJ_iconst (pc := 38) dX7_habit_38 (by decide) ?_
      refine jJ_iret (pc := 39) dX7_habit_39 rfl ?_
      first | (exfalso; omega) | exact ⟨by (repeat' split) <;> first | rfl | (exfalso; omega), by (repeat' split) <;> first | rfl | (exfalso; omega), rfl⟩
  · refine jJ_iload_n (pc := 10) dX7_habit_10 rfl ?_
    refine jJ_bipush (pc := 11) dX7_habit_11 (by decide) ?_
    refine jJ_icmp_gt (pc := 13) (tgt := 30) dX7_habit_13 (by decide) (fun c13 => ?_) (fun c13 => ?_)
    · refine jJ_iconst (pc := 30) dX7_habit_30 (by decide) ?_
      refine jJ_iconst (pc := 31) dX7_habit_31 (by decide) ?_
      refine jJ_callVd (pc := 32) (as := [_, _]) dX7_habit_32 mX7_208 (jRcv_of hR.1 rfl rfl) (Nat.le_of_ble_eq_true rfl) (jRm_ok (by omega) (by decide)) (r_right (d := d - 1) hR) ?_
      try simp only [rgT, rgF, jput_s, jb_00, jb_10, jb_T, jb_F, jput_a I e18, jput_k I (show (16 : Nat) ≠ 0 by decide)]
      refine jJ_if_ne (pc := 35) (tgt := 40) dX7_habit_35 (by decide) (fun c35 => ?_) (fun c35 => ?_)
      · refine jJ_aload_n (pc := 40) dX7_habit_40 rfl ?_
        refine jJ_geti (pc := 41) dX7_habit_41 fX7_257 rfl hR.1 ?_
        try simp only [rgT, rgF, jput_s, jb_00, jb_10, jb_T, jb_F, jput_a I e18, jput_k I (show (16 : Nat) ≠ 0 by decide)]
        refine jJ_if_eq (pc := 44) (tgt := 61) dX7_habit_44 (by decide) (fun c44 => ?_) (fun c44 => ?_)
        · refine jJ_iconst (pc := 61) dX7_habit_61 (by decide) ?_
          refine jJ_iret (pc := 62) dX7_habit_62 rfl ?_
          first | (exfalso; omega) | exact ⟨by (repeat' split) <;> first | rfl | (exfalso; omega), by (repeat' split) <;> first | rfl | (exfalso; omega), rfl⟩
        · refine jJ_aload_n (pc := 47) dX7_habit_47 rfl ?_
          refine jJ_getr (pc := 48) dX7_habit_48 fX7_54 rfl hR.1 hR.p18 ?_
          try simp only [rgT, rgF, jput_s, jb_00, jb_10, jb_T, jb_F, jput_a I e18, jput_k I (show (16 : Nat) ≠ 0 by decide)]
          refine jJ_bipush (pc := 51) dX7_habit_51 (by decide) ?_
          refine jJ_iload_n (pc := 53) dX7_habit_53 rfl ?_
          refine jJ_imul (pc := 54) dX7_habit_54 ⟨by omega, by omega⟩ ?_
          refine jJ_iload_n (pc := 55) dX7_habit_55 rfl ?_
          refine jJ_iadd (pc := 56) dX7_habit_56 ⟨by omega, by omega⟩ ?_
          refine jJ_iald (pc := 57) dX7_habit_57 hR.a18 ⟨by omega, by omega⟩ ?_
          try simp only [rgT, rgF, jput_s, jb_00, jb_10, jb_T, jb_F, jput_a I e18, jput_k I (show (16 : Nat) ≠ 0 by decide)]
          refine jJ_goto (pc := 58) (tgt := 62) dX7_habit_58 (by decide) ?_
          refine jJ_iret (pc := 62) dX7_habit_62 rfl ?_
          first | (exfalso; omega) | exact ⟨by (repeat' split) <;> first | rfl | (exfalso; omega), by (repeat' split) <;> first | rfl | (exfalso; omega), rfl⟩
      · refine jJ_iconst (pc := 38) dX7_habit_38 (by decide) ?_
        refine jJ_iret (pc := 39) dX7_habit_39 rfl ?_
        first | (exfalso; omega) | exact ⟨by (repeat' split) <;> first | rfl | (exfalso; omega), by (repeat' split) <;> first | rfl | (exfalso; omega), rfl⟩
    · refine jJ_iload_n (pc := 16) dX7_habit_16 rfl ?_
      refine jJ_if_lt (pc := 17) (tgt := 30) dX7_habit_17 (by decide) (fun c17 => ?_) (fun c17 => ?_)
      · refine jJ_iconst (pc := 30) dX7_habit_30 (by decide) ?_
        refine jJ_iconst (pc := 31) dX7_habit_31 (by decide) ?_
        refine jJ_callVd (pc := 32) (as := [_, _]) dX7_habit_32 mX7_208 (jRcv_of hR.1 rfl rfl) (Nat.le_of_ble_eq_true rfl) (jRm_ok (by omega) (by decide)) (r_right (d := d - 1) hR) ?_
        try simp only [rgT, rgF, jput_s, jb_00, jb_10, jb_T, jb_F, jput_a I e18, jput_k I (show (16 : Nat) ≠ 0 by decide)]
        refine jJ_if_ne (pc := 35) (tgt := 40) dX7_habit_35 (by decide) (fun c35 => ?_) (fun c35 => ?_)
        · refine jJ_aload_n (pc := 40) dX7_habit_40 rfl ?_
          refine jJ_geti (pc := 41) dX7_habit_41 fX7_257 rfl hR.1 ?_
          try simp only [rgT, rgF, jput_s, jb_00, jb_10, jb_T, jb_F, jput_a I e18, jput_k I (show (16 : Nat) ≠ 0 by decide)]
          refine jJ_if_eq (pc := 44) (tgt := 61) dX7_habit_44 (by decide) (fun c44 => ?_) (fun c44 => ?_)
          · refine jJ_iconst (pc := 61) dX7_habit_61 (by decide) ?_
            refine jJ_iret (pc := 62) dX7_habit_62 rfl ?_
            first | (exfalso; omega) | exact ⟨by (repeat' split) <;> first | rfl | (exfalso; omega), by (repeat' split) <;> first | rfl | (exfalso; omega), rfl⟩
          · refine jJ_aload_n (pc := 47) dX7_habit_47 rfl ?_
            refine jJ_getr (pc := 48) dX7_habit_48 fX7_54 rfl hR.1 hR.p18 ?_
            try simp only [rgT, rgF, jput_s, jb_00, jb_10, jb_T, jb_F, jput_a I e18, jput_k I (show (16 : Nat) ≠ 0 by decide)]
            refine jJ_bipush (pc := 51) dX7_habit_51 (by decide) ?_
            refine jJ_iload_n (pc := 53) dX7_habit_53 rfl ?_
            refine jJ_imul (pc := 54) dX7_habit_54 ⟨by omega, by omega⟩ ?_
            refine jJ_iload_n (pc := 55) dX7_habit_55 rfl ?_
            refine jJ_iadd (pc := 56) dX7_habit_56 ⟨by omega, by omega⟩ ?_
            refine jJ_iald (pc := 57) dX7_habit_57 hR.a18 ⟨by omega, by omega⟩ ?_
            try simp only [rgT, rgF, jput_s, jb_00, jb_10, jb_T, jb_F, jput_a I e18, jput_k I (show (16 : Nat) ≠ 0 by decide)]
            refine jJ_goto (pc := 58) (tgt := 62) dX7_habit_58 (by decide) ?_
            refine jJ_iret (pc := 62) dX7_habit_62 rfl ?_
            first | (exfalso; omega) | exact ⟨by (repeat' split) <;> first | rfl | (exfalso; omega), by (repeat' split) <;> first | rfl | (exfalso; omega), rfl⟩
        · refine jJ_iconst (pc := 38) dX7_habit_38 (by decide) ?_
          refine jJ_iret (pc := 39) dX7_habit_39 rfl ?_
          first | (exfalso; omega) | exact ⟨by (repeat' split) <;> first | rfl | (exfalso; omega), by (repeat' split) <;> first | rfl | (exfalso; omega), rfl⟩
      · refine jJ_iload_n (pc := 20) dX7_habit_20 rfl ?_
        refine jJ_bipush (pc := 21) dX7_habit_21 (by decide) ?_
        refine jJ_icmp_gt (pc := 23) (tgt := 30) dX7_habit_23 (by decide) (fun c23 => ?_) (fun c23 => ?_)
        · refine jJ_iconst (pc := 30) dX7_habit_30 (by decide) ?_
          refine jJ_iconst (pc := 31) dX7_habit_31 (by decide) ?_
          refine jJ_callVd (pc := 32) (as := [_, _]) dX7_habit_32 mX7_208 (jRcv_of hR.1 rfl rfl) (Nat.le_of_ble_eq_true rfl) (jRm_ok (by omega) (by decide)) (r_right (d := d - 1) hR) ?_
          try simp only [rgT, rgF, jput_s, jb_00, jb_10, jb_T, jb_F, jput_a I e18, jput_k I (show (16 : Nat) ≠ 0 by decide)]
          refine jJ_if_ne (pc := 35) (tgt := 40) dX7_habit_35 (by decide) (fun c35 => ?_) (fun c35 => ?_)
          · refine jJ_aload_n (pc := 40) dX7_habit_40 rfl ?_
            refine jJ_geti (pc := 41) dX7_habit_41 fX7_257 rfl hR.1 ?_
            try simp only [rgT, rgF, jput_s, jb_00, jb_10, jb_T, jb_F, jput_a I e18, jput_k I (show (16 : Nat) ≠ 0 by decide)]
            refine jJ_if_eq (pc := 44) (tgt := 61) dX7_habit_44 (by decide) (fun c44 => ?_) (fun c44 => ?_)
            · refine jJ_iconst (pc := 61) dX7_habit_61 (by decide) ?_
              refine jJ_iret (pc := 62) dX7_habit_62 rfl ?_
              first | (exfalso; omega) | exact ⟨by (repeat' split) <;> first | rfl | (exfalso; omega), by (repeat' split) <;> first | rfl | (exfalso; omega), rfl⟩
            · refine jJ_aload_n (pc := 47) dX7_habit_47 rfl ?_
              refine jJ_getr (pc := 48) dX7_habit_48 fX7_54 rfl hR.1 hR.p18 ?_
              try simp only [rgT, rgF, jput_s, jb_00, jb_10, jb_T, jb_F, jput_a I e18, jput_k I (show (16 : Nat) ≠ 0 by decide)]
              refine jJ_bipush (pc := 51) dX7_habit_51 (by decide) ?_
              refine jJ_iload_n (pc := 53) dX7_habit_53 rfl ?_
              refine jJ_imul (pc := 54) dX7_habit_54 ⟨by omega, by omega⟩ ?_
              refine jJ_iload_n (pc := 55) dX7_habit_55 rfl ?_
              refine jJ_iadd (pc := 56) dX7_habit_56 ⟨by omega, by omega⟩ ?_
              refine jJ_iald (pc := 57) dX7_habit_57 hR.a18 ⟨by omega, by omega⟩ ?_
              try simp only [rgT, rgF, jput_s, jb_00, jb_10, jb_T, jb_F, jput_a I e18, jput_k I (show (16 : Nat) ≠ 0 by decide)]
              refine jJ_goto (pc := 58) (tgt := 62) dX7_habit_58 (by decide) ?_
              refine jJ_iret (pc := 62) dX7_habit_62 rfl ?_
              first | (exfalso; omega) | exact ⟨by (repeat' split) <;> first | rfl | (exfalso; omega), by (repeat' split) <;> first | rfl | (exfalso; omega), rfl⟩
          · refine jJ_iconst (pc := 38) dX7_habit_38 (by decide) ?_
            refine jJ_iret (pc := 39) dX7_habit_39 rfl ?_
            first | (exfalso; omega) | exact ⟨by (repeat' split) <;> first | rfl | (exfalso; omega), by (repeat' split) <;> first | rfl | (exfalso; omega), rfl⟩
        · refine jJ_iconst (pc := 26) dX7_habit_26 (by decide) ?_
          refine jJ_goto (pc := 27) (tgt := 31) dX7_habit_27 (by decide) ?_
          refine jJ_iconst (pc := 31) dX7_habit_31 (by decide) ?_
          refine jJ_callVd (pc := 32) (as := [_, _]) dX7_habit_32 mX7_208 (jRcv_of hR.1 rfl rfl) (Nat.le_of_ble_eq_true rfl) (jRm_ok (by omega) (by decide)) (r_right (d := d - 1) hR) ?_
          try simp only [rgT, rgF, jput_s, jb_00, jb_10, jb_T, jb_F, jput_a I e18, jput_k I (show (16 : Nat) ≠ 0 by decide)]
          refine jJ_if_ne (pc := 35) (tgt := 40) dX7_habit_35 (by decide) (fun c35 => ?_) (fun c35 => ?_)
          · refine jJ_aload_n (pc := 40) dX7_habit_40 rfl ?_
            refine jJ_geti (pc := 41) dX7_habit_41 fX7_257 rfl hR.1 ?_
            try simp only [rgT, rgF, jput_s, jb_00, jb_10, jb_T, jb_F, jput_a I e18, jput_k I (show (16 : Nat) ≠ 0 by decide)]
            refine jJ_if_eq (pc := 44) (tgt := 61) dX7_habit_44 (by decide) (fun c44 => ?_) (fun c44 => ?_)
            · refine jJ_iconst (pc := 61) dX7_habit_61 (by decide) ?_
              refine jJ_iret (pc := 62) dX7_habit_62 rfl ?_
              first | (exfalso; omega) | exact ⟨by (repeat' split) <;> first | rfl | (exfalso; omega), by (repeat' split) <;> first | rfl | (exfalso; omega), rfl⟩
            · refine jJ_aload_n (pc := 47) dX7_habit_47 rfl ?_
              refine jJ_getr (pc := 48) dX7_habit_48 fX7_54 rfl hR.1 hR.p18 ?_
              try simp only [rgT, rgF, jput_s, jb_00, jb_10, jb_T, jb_F, jput_a I e18, jput_k I (show (16 : Nat) ≠ 0 by decide)]
              refine jJ_bipush (pc := 51) dX7_habit_51 (by decide) ?_
              refine jJ_iload_n (pc := 53) dX7_habit_53 rfl ?_
              refine jJ_imul (pc := 54) dX7_habit_54 ⟨by omega, by omega⟩ ?_
              refine jJ_iload_n (pc := 55) dX7_habit_55 rfl ?_
              refine jJ_iadd (pc := 56) dX7_habit_56 ⟨by omega, by omega⟩ ?_
              refine jJ_iald (pc := 57) dX7_habit_57 hR.a18 ⟨by omega, by omega⟩ ?_
              try simp only [rgT, rgF, jput_s, jb_00, jb_10, jb_T, jb_F, jput_a I e18, jput_k I (show (16 : Nat) ≠ 0 by decide)]
              refine jJ_goto (pc := 58) (tgt := 62) dX7_habit_58 (by decide) ?_
              refine jJ_iret (pc := 62) dX7_habit_62 rfl ?_
              first | (exfalso; omega) | exact ⟨by (repeat' split) <;> first | rfl | (exfalso; omega), by (repeat' split) <;> first | rfl | (exfalso; omega), rfl⟩
          · refine jJ_iconst (pc := 38) dX7_habit_38 (by decide) ?_
            refine jJ_iret (pc := 39) dX7_habit_39 rfl ?_
            first | (exfalso; omega) | exact ⟨by (repeat' split) <;> first | rfl | (exfalso; omega), by (repeat' split) <;> first | rfl | (exfalso; omega), rfl⟩
theorem r_told {k : Int} (hR : RfL E P m a) (ho : 0 ≤ I m 20 ∧ I m 20 ≤ 2000) (hd : 1 ≤ d) : jC E yX7_told cX7_told 2 (some .int) d [jp m, ji k] I P (jD (some (ji (if -1 ≤ k ∧ k < I m 20 then (if k = -1 then I m 20 else I (a 19) k.toNat) else 0))) (jput I m 0 (if -1 ≤ k ∧ k < I m 20 then 0 else 1)) P) := by
  have e19 := hR.n19
  refine jC_intro (by decide +kernel) (by simp [jc, va_rf, Value.category]) (Nat.le_of_ble_eq_true rfl) ?_
  refine jJ_aload_n (pc := 0) dX7_told_0 rfl ?_
  refine jJ_iconst (pc := 1) dX7_told_1 (by decide) ?_
  refine jJ_puti (pc := 2) dX7_told_2 fX7_78w rfl ⟨rfl, rfl⟩ hR.1 ?_
  try simp only [rgT, rgF, jput_s, jb_00, jb_10, jb_T, jb_F, jput_a I e19, jput_k I (show (20 : Nat) ≠ 0 by decide)]
  refine jJ_aload_n (pc := 5) dX7_told_5 rfl ?_
  refine jJ_iload_n (pc := 6) dX7_told_6 rfl ?_
  refine jJ_iconst (pc := 7) dX7_told_7 (by decide) ?_
  refine jJ_icmp_lt (pc := 8) (tgt := 23) dX7_told_8 (by decide) (fun c8 => ?_) (fun c8 => ?_)
  · refine jJ_iconst (pc := 23) dX7_told_23 (by decide) ?_
    refine jJ_iconst (pc := 24) dX7_told_24 (by decide) ?_
    refine jJ_callVd (pc := 25) (as := [_, _]) dX7_told_25 mX7_208 (jRcv_of hR.1 rfl rfl) (Nat.le_of_ble_eq_true rfl) (jRm_ok (by omega) (by decide)) (r_right (d := d - 1) hR) ?_
    try simp only [rgT, rgF, jput_s, jb_00, jb_10, jb_T, jb_F, jput_a I e19, jput_k I (show (20 : Nat) ≠ 0 by decide)]
    refine jJ_if_ne (pc := 28) (tgt := 33) dX7_told_28 (by decide) (fun c28 => ?_) (fun c28 => ?_)
    · refine jJ_iload_n (pc := 33) dX7_told_33 rfl ?_
      refine jJ_iconst (pc := 34) dX7_told_34 (by decide) ?_
      refine jJ_icmp_ne (pc := 35) (tgt := 45) dX7_told_35 (by decide) (fun c35 => ?_) (fun c35 => ?_)
      · refine jJ_aload_n (pc := 45) dX7_told_45 rfl ?_
        refine jJ_getr (pc := 46) dX7_told_46 fX7_57 rfl hR.1 hR.p19 ?_
        try simp only [rgT, rgF, jput_s, jb_00, jb_10, jb_T, jb_F, jput_a I e19, jput_k I (show (20 : Nat) ≠ 0 by decide)]
        refine jJ_iload_n (pc := 49) dX7_told_49 rfl ?_
        refine jJ_iald (pc := 50) dX7_told_50 hR.a19 ⟨by omega, by omega⟩ ?_
        try simp only [rgT, rgF, jput_s, jb_00, jb_10, jb_T, jb_F, jput_a I e19, jput_k I (show (20 : Nat) ≠ 0 by decide)]
        refine jJ_iret (pc := 51) dX7_told_51 rfl ?_
        first | (exfalso; omega) | exact ⟨by (repeat' split) <;> first | rfl | (exfalso; omega), by (repeat' split) <;> first | rfl | (exfalso; omega), rfl⟩
      · refine jJ_aload_n (pc := 38) dX7_told_38 rfl ?_
        refine jJ_geti (pc := 39) dX7_told_39 fX7_264 rfl hR.1 ?_
        try simp only [rgT, rgF, jput_s, jb_00, jb_10, jb_T, jb_F, jput_a I e19, jput_k I (show (20 : Nat) ≠ 0 by decide)]
        refine jJ_goto (pc := 42) (tgt := 51) dX7_told_42 (by decide) ?_
        refine jJ_iret (pc := 51) dX7_told_51 rfl ?_
        first | (exfalso; omega) | exact ⟨by (repeat' split) <;> first | rfl | (exfalso; omega), by (repeat' split) <;> first | rfl | (exfalso; omega), rfl⟩
    · refine jJ_iconst (pc := 31) dX7_told_31 (by decide) ?_
      refine jJ_iret (pc := 32) dX7_told_32 rfl ?_
      first | (exfalso; omega) | exact ⟨by (repeat' split) <;> first | rfl | (exfalso; omega), by (repeat' split) <;> first | rfl | (exfalso; omega), rfl⟩
  · refine jJ_iload_n (pc := 11) dX7_told_11 rfl ?_
    refine jJ_aload_n (pc := 12) dX7_told_12 rfl ?_
    refine jJ_geti (pc := 13) dX7_told_13 fX7_264 rfl hR.1 ?_
    try simp only [rgT, rgF, jput_s, jb_00, jb_10, jb_T, jb_F, jput_a I e19, jput_k I (show (20 : Nat) ≠ 0 by decide)]
    refine jJ_icmp_ge (pc := 16) (tgt := 23) dX7_told_16 (by decide) (fun c16 => ?_) (fun c16 => ?_)
    · refine jJ_iconst (pc := 23) dX7_told_23 (by decide) ?_
      refine jJ_iconst (pc := 24) dX7_told_24 (by decide) ?_
      refine jJ_callVd (pc := 25) (as := [_, _]) dX7_told_25 mX7_208 (jRcv_of hR.1 rfl rfl) (Nat.le_of_ble_eq_true rfl) (jRm_ok (by omega) (by decide)) (r_right (d := d - 1) hR) ?_
      try simp only [rgT, rgF, jput_s, jb_00, jb_10, jb_T, jb_F, jput_a I e19, jput_k I (show (20 : Nat) ≠ 0 by decide)]
      refine jJ_if_ne (pc := 28) (tgt := 33) dX7_told_28 (by decide) (fun c28 => ?_) (fun c28 => ?_)
      · refine jJ_iload_n (pc := 33) dX7_told_33 rfl ?_
        refine jJ_iconst (pc := 34) dX7_told_34 (by decide) ?_
        refine jJ_icmp_ne (pc := 35) (tgt := 45) dX7_told_35 (by decide) (fun c35 => ?_) (fun c35 => ?_)
        · refine jJ_aload_n (pc := 45) dX7_told_45 rfl ?_
          refine jJ_getr (pc := 46) dX7_told_46 fX7_57 rfl hR.1 hR.p19 ?_
          try simp only [rgT, rgF, jput_s, jb_00, jb_10, jb_T, jb_F, jput_a I e19, jput_k I (show (20 : Nat) ≠ 0 by decide)]
          refine jJ_iload_n (pc := 49) dX7_told_49 rfl ?_
          refine jJ_iald (pc := 50) dX7_told_50 hR.a19 ⟨by omega, by omega⟩ ?_
          try simp only [rgT, rgF, jput_s, jb_00, jb_10, jb_T, jb_F, jput_a I e19, jput_k I (show (20 : Nat) ≠ 0 by decide)]
          refine jJ_iret (pc := 51) dX7_told_51 rfl ?_
          first | (exfalso; omega) | exact ⟨by (repeat' split) <;> first | rfl | (exfalso; omega), by (repeat' split) <;> first | rfl | (exfalso; omega), rfl⟩
        · refine jJ_aload_n (pc := 38) dX7_told_38 rfl ?_
          refine jJ_geti (pc := 39) dX7_told_39 fX7_264 rfl hR.1 ?_
          try simp only [rgT, rgF, jput_s, jb_00, jb_10, jb_T, jb_F, jput_a I e19, jput_k I (show (20 : Nat) ≠ 0 by decide)]
          refine jJ_goto (pc := 42) (tgt := 51) dX7_told_42 (by decide) ?_
          refine jJ_iret (pc := 51) dX7_told_51 rfl ?_
          first | (exfalso; omega) | exact ⟨by (repeat' split) <;> first | rfl | (exfalso; omega), by (repeat' split) <;> first | rfl | (exfalso; omega), rfl⟩
      · refine jJ_iconst (pc := 31) dX7_told_31 (by decide) ?_
        refine jJ_iret (pc := 32) dX7_told_32 rfl ?_
        first | (exfalso; omega) | exact ⟨by (repeat' split) <;> first | rfl | (exfalso; omega), by (repeat' split) <;> first | rfl | (exfalso; omega), rfl⟩
    · refine jJ_iconst (pc := 19) dX7_told_19 (by decide) ?_
      refine jJ_goto (pc := 20) (tgt := 24) dX7_told_20 (by decide) ?_
      refine jJ_iconst (pc := 24) dX7_told_24 (by decide) ?_
      refine jJ_callVd (pc := 25) (as := [_, _]) dX7_told_25 mX7_208 (jRcv_of hR.1 rfl rfl) (Nat.le_of_ble_eq_true rfl) (jRm_ok (by omega) (by decide)) (r_right (d := d - 1) hR) ?_
      try simp only [rgT, rgF, jput_s, jb_00, jb_10, jb_T, jb_F, jput_a I e19, jput_k I (show (20 : Nat) ≠ 0 by decide)]
      refine jJ_if_ne (pc := 28) (tgt := 33) dX7_told_28 (by decide) (fun c28 => ?_) (fun c28 => ?_)
      · refine jJ_iload_n (pc := 33) dX7_told_33 rfl ?_
        refine jJ_iconst (pc := 34) dX7_told_34 (by decide) ?_
        refine jJ_icmp_ne (pc := 35) (tgt := 45) dX7_told_35 (by decide) (fun c35 => ?_) (fun c35 => ?_)
        · refine jJ_aload_n (pc := 45) dX7_told_45 rfl ?_
          refine jJ_getr (pc := 46) dX7_told_46 fX7_57 rfl hR.1 hR.p19 ?_
          try simp only [rgT, rgF, jput_s, jb_00, jb_10, jb_T, jb_F, jput_a I e19, jput_k I (show (20 : Nat) ≠ 0 by decide)]
          refine jJ_iload_n (pc := 49) dX7_told_49 rfl ?_
          refine jJ_iald (pc := 50) dX7_told_50 hR.a19 ⟨by omega, by omega⟩ ?_
          try simp only [rgT, rgF, jput_s, jb_00, jb_10, jb_T, jb_F, jput_a I e19, jput_k I (show (20 : Nat) ≠ 0 by decide)]
          refine jJ_iret (pc := 51) dX7_told_51 rfl ?_
          first | (exfalso; omega) | exact ⟨by (repeat' split) <;> first | rfl | (exfalso; omega), by (repeat' split) <;> first | rfl | (exfalso; omega), rfl⟩
        · refine jJ_aload_n (pc := 38) dX7_told_38 rfl ?_
          refine jJ_geti (pc := 39) dX7_told_39 fX7_264 rfl hR.1 ?_
          try simp only [rgT, rgF, jput_s, jb_00, jb_10, jb_T, jb_F, jput_a I e19, jput_k I (show (20 : Nat) ≠ 0 by decide)]
          refine jJ_goto (pc := 42) (tgt := 51) dX7_told_42 (by decide) ?_
          refine jJ_iret (pc := 51) dX7_told_51 rfl ?_
          first | (exfalso; omega) | exact ⟨by (repeat' split) <;> first | rfl | (exfalso; omega), by (repeat' split) <;> first | rfl | (exfalso; omega), rfl⟩
      · refine jJ_iconst (pc := 31) dX7_told_31 (by decide) ?_
        refine jJ_iret (pc := 32) dX7_told_32 rfl ?_
        first | (exfalso; omega) | exact ⟨by (repeat' split) <;> first | rfl | (exfalso; omega), by (repeat' split) <;> first | rfl | (exfalso; omega), rfl⟩
/-- the memory behind drop() -/
def drM (I : jI) (m : Nat) (a : Nat → Nat) (t : Int) : jI := if 0 ≤ t ∧ t < 12 then (if I m 21 = t then jput (jput (jput I m 0 0) (a 5) t.toNat 0) m 21 (-1) else jput (jput I m 0 0) (a 5) t.toNat 0) else jput I m 0 1
theorem r_drop {t : Int} (hR : RfL E P m a) (hb : ∀ t, t < 12 → I (a 5) t = 0 ∨ I (a 5) t = 1) (hd : 1 ≤ d) : jC E yX7_drop cX7_drop 3 (some .boolean) d [jp m, ji t] I P (jD (some (ji (if 0 ≤ t ∧ t < 12 then I (a 5) t.toNat else 0))) (drM I m a t) P) := by
  have n5 := hR.n5
  refine jC_intro (by decide +kernel) (by simp [jc, va_rf, Value.category]) (Nat.le_of_ble_eq_true rfl) ?_
  refine jJ_aload_n (pc := 0) dX7_drop_0 rfl ?_
  refine jJ_iconst (pc := 1) dX7_drop_1 (by decide) ?_
  refine jJ_puti (pc := 2) dX7_drop_2 fX7_78w rfl ⟨rfl, rfl⟩ hR.1 ?_
  refine jJ_aload_n (pc := 5) dX7_drop_5 rfl ?_
  refine jJ_iload_n (pc := 6) dX7_drop_6 rfl ?_
  refine jJ_callSd (pc := 7) (as := [_]) dX7_drop_7 mX7_205 (Nat.le_of_ble_eq_true rfl) (jRm_ok (by omega) (by decide)) (r_isNumber (d := d - 1)) ?_
  refine jJ_iconst (pc := 10) dX7_drop_10 (by decide) ?_
  by_cases ht : 0 ≤ t ∧ t < 12
  · rw [← jb_t ht]
    refine jJ_callVd (pc := 11) (as := [_, _]) dX7_drop_11 mX7_208 (jRcv_of hR.1 rfl rfl) (Nat.le_of_ble_eq_true rfl) (jRm_ok (by omega) (by decide)) (r_right (d := d - 1) hR) ?_
    rw [rgT, jput_s, jb_00]
    have hz := hb t.toNat (by omega)
    refine jJ_if_ne (pc := 14) (tgt := 19) dX7_drop_14 (by decide) (fun c14 => ?_) (fun c14 => ?_)
    · refine jJ_aload_n (pc := 19) dX7_drop_19 rfl ?_
      refine jJ_getr (pc := 20) dX7_drop_20 fX7_17 rfl hR.1 hR.p5 ?_
      try simp only [jput_a _ (Ne.symm n5), jput_k I (show (21 : Nat) ≠ 0 by decide)]
      refine jJ_iload_n (pc := 23) dX7_drop_23 rfl ?_
      refine jJ_zald (pc := 24) dX7_drop_24 hR.a5 ⟨by omega, by omega⟩ ?_
      try simp only [jput_a _ (Ne.symm n5), jput_k I (show (21 : Nat) ≠ 0 by decide)]
      refine jJ_istore_n (pc := 25) (ls' := [_, _, _]) dX7_drop_25 (Nat.le_of_ble_eq_true rfl) rfl ?_
      refine jJ_aload_n (pc := 26) dX7_drop_26 rfl ?_
      refine jJ_getr (pc := 27) dX7_drop_27 fX7_17 rfl hR.1 hR.p5 ?_
      try simp only [jput_a _ (Ne.symm n5), jput_k I (show (21 : Nat) ≠ 0 by decide)]
      refine jJ_iload_n (pc := 30) dX7_drop_30 rfl ?_
      refine jJ_iconst (pc := 31) dX7_drop_31 (by decide) ?_
      refine jJ_zast (pc := 32) dX7_drop_32 hR.a5 ⟨by omega, by omega⟩ (by decide) ?_
      try simp only [jput_a _ (Ne.symm n5), jput_k I (show (21 : Nat) ≠ 0 by decide)]
      refine jJ_aload_n (pc := 33) dX7_drop_33 rfl ?_
      refine jJ_geti (pc := 34) dX7_drop_34 fX7_60 rfl hR.1 ?_
      try simp only [jput_a _ (Ne.symm n5), jput_k I (show (21 : Nat) ≠ 0 by decide)]
      refine jJ_iload_n (pc := 37) dX7_drop_37 rfl ?_
      refine jJ_icmp_ne (pc := 38) (tgt := 46) dX7_drop_38 (by decide) (fun c38 => ?_) (fun c38 => ?_)
      · refine jJ_iload_n (pc := 46) dX7_drop_46 rfl ?_
        refine jJ_zret (pc := 47) dX7_drop_47 rfl (by first | exact Or.inl rfl | (rw [jput_a I n5]; exact hz)) ?_
        first | (exfalso; omega) | exact ⟨by rw [if_pos ht, jput_a I n5], by rw [drM, if_pos ht]; split <;> first | rfl | (exfalso; omega), rfl⟩
      · refine jJ_aload_n (pc := 41) dX7_drop_41 rfl ?_
        refine jJ_iconst (pc := 42) dX7_drop_42 (by decide) ?_
        refine jJ_puti (pc := 43) dX7_drop_43 fX7_60w rfl ⟨rfl, rfl⟩ hR.1 ?_
        try simp only [jput_a _ (Ne.symm n5), jput_k I (show (21 : Nat) ≠ 0 by decide)]
        refine jJ_iload_n (pc := 46) dX7_drop_46 rfl ?_
        refine jJ_zret (pc := 47) dX7_drop_47 rfl (by first | exact Or.inl rfl | (rw [jput_a I n5]; exact hz)) ?_
        first | (exfalso; omega) | exact ⟨by rw [if_pos ht, jput_a I n5], by rw [drM, if_pos ht]; split <;> first | rfl | (exfalso; omega), rfl⟩
    · refine jJ_iconst (pc := 17) dX7_drop_17 (by decide) ?_
      refine jJ_zret (pc := 18) dX7_drop_18 rfl (by first | exact Or.inl rfl | (rw [jput_a I n5]; exact hz)) ?_
      first | (exfalso; omega) | exact ⟨by rw [if_pos ht, jput_a I n5], by rw [drM, if_pos ht]; split <;> first | rfl | (exfalso; omega), rfl⟩
  · rw [← jb_f ht]
    refine jJ_callVd (pc := 11) (as := [_, _]) dX7_drop_11 mX7_208 (jRcv_of hR.1 rfl rfl) (Nat.le_of_ble_eq_true rfl) (jRm_ok (by omega) (by decide)) (r_right (d := d - 1) hR) ?_
    rw [rgF, jput_s, jb_10]
    refine jJ_if_ne (pc := 14) (tgt := 19) dX7_drop_14 (by decide) (fun c14 => ?_) (fun c14 => ?_)
    · exact absurd rfl c14
    · refine jJ_iconst (pc := 17) dX7_drop_17 (by decide) ?_
      refine jJ_zret (pc := 18) dX7_drop_18 rfl (Or.inl rfl) ?_
      exact ⟨by rw [if_neg ht], by rw [drM, if_neg ht], rfl⟩
theorem thM_t {t : Int} (h : 0 ≤ t ∧ t < 12 ∧ I (a 5) t.toNat ≠ 0) : thM I m a t = jput I m 0 0 := by rw [thM, if_pos h]
theorem thM_f {t : Int} (h : ¬ (0 ≤ t ∧ t < 12 ∧ I (a 5) t.toNat ≠ 0)) : thM I m a t = jput I m 0 1 := by rw [thM, if_neg h]
theorem r_about {t w : Int} (hR : RfL E P m a) (hd : 2 ≤ d) : jC E yX7_about cX7_about 3 (some .int) d [jp m, ji t, ji w] I P (jD (some (ji (if (0 ≤ t ∧ t < 12 ∧ I (a 5) t.toNat ≠ 0) ∧ 0 ≤ w ∧ w ≤ 3 then (if w = 0 then I (a 9) t.toNat else if w = 1 then I (a 7) t.toNat else if w = 2 then I (a 8) t.toNat else I (a 10) t.toNat) else 0))) (jput I m 0 (if (0 ≤ t ∧ t < 12 ∧ I (a 5) t.toNat ≠ 0) ∧ 0 ≤ w ∧ w ≤ 3 then 0 else 1)) P) := by
  have n7 := hR.n7
  have n8 := hR.n8
  have n9 := hR.n9
  have n10 := hR.n10
  refine jC_intro (by decide +kernel) (by simp [jc, va_rf, Value.category]) (Nat.le_of_ble_eq_true rfl) ?_
  refine jJ_aload_n (pc := 0) dX7_about_0 rfl ?_
  refine jJ_iload_n (pc := 1) dX7_about_1 rfl ?_
  refine jJ_callVd (pc := 2) (as := [_]) dX7_about_2 mX7_216 (jRcv_of hR.1 rfl rfl) (Nat.le_of_ble_eq_true rfl) (jRm_ok (by omega) (by decide)) (r_isThere (d := d - 1) hR (by omega)) ?_
  by_cases ht : 0 ≤ t ∧ t < 12 ∧ I (a 5) t.toNat ≠ 0
  · rw [← jb_t ht, thM_t ht]
    simp only [ht, true_and, ne_eq, not_false_eq_true]
    refine jJ_if_eq (pc := 5) (tgt := 30) dX7_about_5 (by decide) (fun c5 => ?_) (fun c5 => ?_)
    · refine jJ_iconst (pc := 30) dX7_about_30 (by decide) ?_
      refine jJ_iret (pc := 31) dX7_about_31 rfl ?_
      first | (exfalso; omega) | exact ⟨by (repeat' split) <;> first | rfl | (exfalso; omega), by (repeat' split) <;> first | rfl | (exfalso; omega), rfl⟩
    · refine jJ_aload_n (pc := 8) dX7_about_8 rfl ?_
      refine jJ_iload_n (pc := 9) dX7_about_9 rfl ?_
      refine jJ_if_lt (pc := 10) (tgt := 22) dX7_about_10 (by decide) (fun c10 => ?_) (fun c10 => ?_)
      · refine jJ_iconst (pc := 22) dX7_about_22 (by decide) ?_
        refine jJ_iconst (pc := 23) dX7_about_23 (by decide) ?_
        refine jJ_callVd (pc := 24) (as := [_, _]) dX7_about_24 mX7_208 (jRcv_of hR.1 rfl rfl) (Nat.le_of_ble_eq_true rfl) (jRm_ok (by omega) (by decide)) (r_right (d := d - 1) hR) ?_
        try simp only [rgT, rgF, jput_s, jb_00, jb_10, jb_T, jb_F, jput_a I n7, jput_a I n8, jput_a I n9, jput_a I n10]
        refine jJ_if_ne (pc := 27) (tgt := 32) dX7_about_27 (by decide) (fun c27 => ?_) (fun c27 => ?_)
        · refine jJ_iload_n (pc := 32) dX7_about_32 rfl ?_
          refine jJ_if_ne (pc := 33) (tgt := 45) dX7_about_33 (by decide) (fun c33 => ?_) (fun c33 => ?_)
          · refine jJ_iload_n (pc := 45) dX7_about_45 rfl ?_
            refine jJ_iconst (pc := 46) dX7_about_46 (by decide) ?_
            refine jJ_icmp_ne (pc := 47) (tgt := 59) dX7_about_47 (by decide) (fun c47 => ?_) (fun c47 => ?_)
            · refine jJ_iload_n (pc := 59) dX7_about_59 rfl ?_
              refine jJ_iconst (pc := 60) dX7_about_60 (by decide) ?_
              refine jJ_icmp_ne (pc := 61) (tgt := 73) dX7_about_61 (by decide) (fun c61 => ?_) (fun c61 => ?_)
              · refine jJ_aload_n (pc := 73) dX7_about_73 rfl ?_
                refine jJ_getr (pc := 74) dX7_about_74 fX7_33 rfl hR.1 hR.p10 ?_
                try simp only [rgT, rgF, jput_s, jb_00, jb_10, jb_T, jb_F, jput_a I n7, jput_a I n8, jput_a I n9, jput_a I n10]
                refine jJ_iload_n (pc := 77) dX7_about_77 rfl ?_
                refine jJ_iald (pc := 78) dX7_about_78 hR.a10 ⟨by omega, by omega⟩ ?_
                try simp only [rgT, rgF, jput_s, jb_00, jb_10, jb_T, jb_F, jput_a I n7, jput_a I n8, jput_a I n9, jput_a I n10]
                refine jJ_iret (pc := 79) dX7_about_79 rfl ?_
                first | (exfalso; omega) | exact ⟨by (repeat' split) <;> first | rfl | (exfalso; omega), by (repeat' split) <;> first | rfl | (exfalso; omega), rfl⟩
              · refine jJ_aload_n (pc := 64) dX7_about_64 rfl ?_
                refine jJ_getr (pc := 65) dX7_about_65 fX7_27 rfl hR.1 hR.p8 ?_
                try simp only [rgT, rgF, jput_s, jb_00, jb_10, jb_T, jb_F, jput_a I n7, jput_a I n8, jput_a I n9, jput_a I n10]
                refine jJ_iload_n (pc := 68) dX7_about_68 rfl ?_
                refine jJ_iald (pc := 69) dX7_about_69 hR.a8 ⟨by omega, by omega⟩ ?_
                try simp only [rgT, rgF, jput_s, jb_00, jb_10, jb_T, jb_F, jput_a I n7, jput_a I n8, jput_a I n9, jput_a I n10]
                refine jJ_goto (pc := 70) (tgt := 79) dX7_about_70 (by decide) ?_
                refine jJ_iret (pc := 79) dX7_about_79 rfl ?_
                first | (exfalso; omega) | exact ⟨by (repeat' split) <;> first | rfl | (exfalso; omega), by (repeat' split) <;> first | rfl | (exfalso; omega), rfl⟩
            · refine jJ_aload_n (pc := 50) dX7_about_50 rfl ?_
              refine jJ_getr (pc := 51) dX7_about_51 fX7_24 rfl hR.1 hR.p7 ?_
              try simp only [rgT, rgF, jput_s, jb_00, jb_10, jb_T, jb_F, jput_a I n7, jput_a I n8, jput_a I n9, jput_a I n10]
              refine jJ_iload_n (pc := 54) dX7_about_54 rfl ?_
              refine jJ_iald (pc := 55) dX7_about_55 hR.a7 ⟨by omega, by omega⟩ ?_
              try simp only [rgT, rgF, jput_s, jb_00, jb_10, jb_T, jb_F, jput_a I n7, jput_a I n8, jput_a I n9, jput_a I n10]
              refine jJ_goto (pc := 56) (tgt := 79) dX7_about_56 (by decide) ?_
              refine jJ_iret (pc := 79) dX7_about_79 rfl ?_
              first | (exfalso; omega) | exact ⟨by (repeat' split) <;> first | rfl | (exfalso; omega), by (repeat' split) <;> first | rfl | (exfalso; omega), rfl⟩
          · refine jJ_aload_n (pc := 36) dX7_about_36 rfl ?_
            refine jJ_getr (pc := 37) dX7_about_37 fX7_30 rfl hR.1 hR.p9 ?_
            try simp only [rgT, rgF, jput_s, jb_00, jb_10, jb_T, jb_F, jput_a I n7, jput_a I n8, jput_a I n9, jput_a I n10]
            refine jJ_iload_n (pc := 40) dX7_about_40 rfl ?_
            refine jJ_iald (pc := 41) dX7_about_41 hR.a9 ⟨by omega, by omega⟩ ?_
            try simp only [rgT, rgF, jput_s, jb_00, jb_10, jb_T, jb_F, jput_a I n7, jput_a I n8, jput_a I n9, jput_a I n10]
            refine jJ_goto (pc := 42) (tgt := 79) dX7_about_42 (by decide) ?_
            refine jJ_iret (pc := 79) dX7_about_79 rfl ?_
            first | (exfalso; omega) | exact ⟨by (repeat' split) <;> first | rfl | (exfalso; omega), by (repeat' split) <;> first | rfl | (exfalso; omega), rfl⟩
        · refine jJ_iconst (pc := 30) dX7_about_30 (by decide) ?_
          refine jJ_iret (pc := 31) dX7_about_31 rfl ?_
          first | (exfalso; omega) | exact ⟨by (repeat' split) <;> first | rfl | (exfalso; omega), by (repeat' split) <;> first | rfl | (exfalso; omega), rfl⟩
      · refine jJ_iload_n (pc := 13) dX7_about_13 rfl ?_
        refine jJ_iconst (pc := 14) dX7_about_14 (by decide) ?_
        refine jJ_icmp_gt (pc := 15) (tgt := 22) dX7_about_15 (by decide) (fun c15 => ?_) (fun c15 => ?_)
        · refine jJ_iconst (pc := 22) dX7_about_22 (by decide) ?_
          refine jJ_iconst (pc := 23) dX7_about_23 (by decide) ?_
          refine jJ_callVd (pc := 24) (as := [_, _]) dX7_about_24 mX7_208 (jRcv_of hR.1 rfl rfl) (Nat.le_of_ble_eq_true rfl) (jRm_ok (by omega) (by decide)) (r_right (d := d - 1) hR) ?_
          try simp only [rgT, rgF, jput_s, jb_00, jb_10, jb_T, jb_F, jput_a I n7, jput_a I n8, jput_a I n9, jput_a I n10]
          refine jJ_if_ne (pc := 27) (tgt := 32) dX7_about_27 (by decide) (fun c27 => ?_) (fun c27 => ?_)
          · refine jJ_iload_n (pc := 32) dX7_about_32 rfl ?_
            refine jJ_if_ne (pc := 33) (tgt := 45) dX7_about_33 (by decide) (fun c33 => ?_) (fun c33 => ?_)
            · refine jJ_iload_n (pc := 45) dX7_about_45 rfl ?_
              refine jJ_iconst (pc := 46) dX7_about_46 (by decide) ?_
              refine jJ_icmp_ne (pc := 47) (tgt := 59) dX7_about_47 (by decide) (fun c47 => ?_) (fun c47 => ?_)
              · refine jJ_iload_n (pc := 59) dX7_about_59 rfl ?_
                refine jJ_iconst (pc := 60) dX7_about_60 (by decide) ?_
                refine jJ_icmp_ne (pc := 61) (tgt := 73) dX7_about_61 (by decide) (fun c61 => ?_) (fun c61 => ?_)
                · refine jJ_aload_n (pc := 73) dX7_about_73 rfl ?_
                  refine jJ_getr (pc := 74) dX7_about_74 fX7_33 rfl hR.1 hR.p10 ?_
                  try simp only [rgT, rgF, jput_s, jb_00, jb_10, jb_T, jb_F, jput_a I n7, jput_a I n8, jput_a I n9, jput_a I n10]
                  refine jJ_iload_n (pc := 77) dX7_about_77 rfl ?_
                  refine jJ_iald (pc := 78) dX7_about_78 hR.a10 ⟨by omega, by omega⟩ ?_
                  try simp only [rgT, rgF, jput_s, jb_00, jb_10, jb_T, jb_F, jput_a I n7, jput_a I n8, jput_a I n9, jput_a I n10]
                  refine jJ_iret (pc := 79) dX7_about_79 rfl ?_
                  first | (exfalso; omega) | exact ⟨by (repeat' split) <;> first | rfl | (exfalso; omega), by (repeat' split) <;> first | rfl | (exfalso; omega), rfl⟩
                · refine jJ_aload_n (pc := 64) dX7_about_64 rfl ?_
                  refine jJ_getr (pc := 65) dX7_about_65 fX7_27 rfl hR.1 hR.p8 ?_
                  try simp only [rgT, rgF, jput_s, jb_00, jb_10, jb_T, jb_F, jput_a I n7, jput_a I n8, jput_a I n9, jput_a I n10]
                  refine jJ_iload_n (pc := 68) dX7_about_68 rfl ?_
                  refine jJ_iald (pc := 69) dX7_about_69 hR.a8 ⟨by omega, by omega⟩ ?_
                  try simp only [rgT, rgF, jput_s, jb_00, jb_10, jb_T, jb_F, jput_a I n7, jput_a I n8, jput_a I n9, jput_a I n10]
                  refine jJ_goto (pc := 70) (tgt := 79) dX7_about_70 (by decide) ?_
                  refine jJ_iret (pc := 79) dX7_about_79 rfl ?_
                  first | (exfalso; omega) | exact ⟨by (repeat' split) <;> first | rfl | (exfalso; omega), by (repeat' split) <;> first | rfl | (exfalso; omega), rfl⟩
              · refine jJ_aload_n (pc := 50) dX7_about_50 rfl ?_
                refine jJ_getr (pc := 51) dX7_about_51 fX7_24 rfl hR.1 hR.p7 ?_
                try simp only [rgT, rgF, jput_s, jb_00, jb_10, jb_T, jb_F, jput_a I n7, jput_a I n8, jput_a I n9, jput_a I n10]
                refine jJ_iload_n (pc := 54) dX7_about_54 rfl ?_
                refine jJ_iald (pc := 55) dX7_about_55 hR.a7 ⟨by omega, by omega⟩ ?_
                try simp only [rgT, rgF, jput_s, jb_00, jb_10, jb_T, jb_F, jput_a I n7, jput_a I n8, jput_a I n9, jput_a I n10]
                refine jJ_goto (pc := 56) (tgt := 79) dX7_about_56 (by decide) ?_
                refine jJ_iret (pc := 79) dX7_about_79 rfl ?_
                first | (exfalso; omega) | exact ⟨by (repeat' split) <;> first | rfl | (exfalso; omega), by (repeat' split) <;> first | rfl | (exfalso; omega), rfl⟩
            · refine jJ_aload_n (pc := 36) dX7_about_36 rfl ?_
              refine jJ_getr (pc := 37) dX7_about_37 fX7_30 rfl hR.1 hR.p9 ?_
              try simp only [rgT, rgF, jput_s, jb_00, jb_10, jb_T, jb_F, jput_a I n7, jput_a I n8, jput_a I n9, jput_a I n10]
              refine jJ_iload_n (pc := 40) dX7_about_40 rfl ?_
              refine jJ_iald (pc := 41) dX7_about_41 hR.a9 ⟨by omega, by omega⟩ ?_
              try simp only [rgT, rgF, jput_s, jb_00, jb_10, jb_T, jb_F, jput_a I n7, jput_a I n8, jput_a I n9, jput_a I n10]
              refine jJ_goto (pc := 42) (tgt := 79) dX7_about_42 (by decide) ?_
              refine jJ_iret (pc := 79) dX7_about_79 rfl ?_
              first | (exfalso; omega) | exact ⟨by (repeat' split) <;> first | rfl | (exfalso; omega), by (repeat' split) <;> first | rfl | (exfalso; omega), rfl⟩
          · refine jJ_iconst (pc := 30) dX7_about_30 (by decide) ?_
            refine jJ_iret (pc := 31) dX7_about_31 rfl ?_
            first | (exfalso; omega) | exact ⟨by (repeat' split) <;> first | rfl | (exfalso; omega), by (repeat' split) <;> first | rfl | (exfalso; omega), rfl⟩
        · refine jJ_iconst (pc := 18) dX7_about_18 (by decide) ?_
          refine jJ_goto (pc := 19) (tgt := 23) dX7_about_19 (by decide) ?_
          refine jJ_iconst (pc := 23) dX7_about_23 (by decide) ?_
          refine jJ_callVd (pc := 24) (as := [_, _]) dX7_about_24 mX7_208 (jRcv_of hR.1 rfl rfl) (Nat.le_of_ble_eq_true rfl) (jRm_ok (by omega) (by decide)) (r_right (d := d - 1) hR) ?_
          try simp only [rgT, rgF, jput_s, jb_00, jb_10, jb_T, jb_F, jput_a I n7, jput_a I n8, jput_a I n9, jput_a I n10]
          refine jJ_if_ne (pc := 27) (tgt := 32) dX7_about_27 (by decide) (fun c27 => ?_) (fun c27 => ?_)
          · refine jJ_iload_n (pc := 32) dX7_about_32 rfl ?_
            refine jJ_if_ne (pc := 33) (tgt := 45) dX7_about_33 (by decide) (fun c33 => ?_) (fun c33 => ?_)
            · refine jJ_iload_n (pc := 45) dX7_about_45 rfl ?_
              refine jJ_iconst (pc := 46) dX7_about_46 (by decide) ?_
              refine jJ_icmp_ne (pc := 47) (tgt := 59) dX7_about_47 (by decide) (fun c47 => ?_) (fun c47 => ?_)
              · refine jJ_iload_n (pc := 59) dX7_about_59 rfl ?_
                refine jJ_iconst (pc := 60) dX7_about_60 (by decide) ?_
                refine jJ_icmp_ne (pc := 61) (tgt := 73) dX7_about_61 (by decide) (fun c61 => ?_) (fun c61 => ?_)
                · refine jJ_aload_n (pc := 73) dX7_about_73 rfl ?_
                  refine jJ_getr (pc := 74) dX7_about_74 fX7_33 rfl hR.1 hR.p10 ?_
                  try simp only [rgT, rgF, jput_s, jb_00, jb_10, jb_T, jb_F, jput_a I n7, jput_a I n8, jput_a I n9, jput_a I n10]
                  refine jJ_iload_n (pc := 77) dX7_about_77 rfl ?_
                  refine jJ_iald (pc := 78) dX7_about_78 hR.a10 ⟨by omega, by omega⟩ ?_
                  try simp only [rgT, rgF, jput_s, jb_00, jb_10, jb_T, jb_F, jput_a I n7, jput_a I n8, jput_a I n9, jput_a I n10]
                  refine jJ_iret (pc := 79) dX7_about_79 rfl ?_
                  first | (exfalso; omega) | exact ⟨by (repeat' split) <;> first | rfl | (exfalso; omega), by (repeat' split) <;> first | rfl | (exfalso; omega), rfl⟩
                · refine jJ_aload_n (pc := 64) dX7_about_64 rfl ?_
                  refine jJ_getr (pc := 65) dX7_about_65 fX7_27 rfl hR.1 hR.p8 ?_
                  try simp only [rgT, rgF, jput_s, jb_00, jb_10, jb_T, jb_F, jput_a I n7, jput_a I n8, jput_a I n9, jput_a I n10]
                  refine jJ_iload_n (pc := 68) dX7_about_68 rfl ?_
                  refine jJ_iald (pc := 69) dX7_about_69 hR.a8 ⟨by omega, by omega⟩ ?_
                  try simp only [rgT, rgF, jput_s, jb_00, jb_10, jb_T, jb_F, jput_a I n7, jput_a I n8, jput_a I n9, jput_a I n10]
                  refine jJ_goto (pc := 70) (tgt := 79) dX7_about_70 (by decide) ?_
                  refine jJ_iret (pc := 79) dX7_about_79 rfl ?_
                  first | (exfalso; omega) | exact ⟨by (repeat' split) <;> first | rfl | (exfalso; omega), by (repeat' split) <;> first | rfl | (exfalso; omega), rfl⟩
              · refine jJ_aload_n (pc := 50) dX7_about_50 rfl ?_
                refine jJ_getr (pc := 51) dX7_about_51 fX7_24 rfl hR.1 hR.p7 ?_
                try simp only [rgT, rgF, jput_s, jb_00, jb_10, jb_T, jb_F, jput_a I n7, jput_a I n8, jput_a I n9, jput_a I n10]
                refine jJ_iload_n (pc := 54) dX7_about_54 rfl ?_
                refine jJ_iald (pc := 55) dX7_about_55 hR.a7 ⟨by omega, by omega⟩ ?_
                try simp only [rgT, rgF, jput_s, jb_00, jb_10, jb_T, jb_F, jput_a I n7, jput_a I n8, jput_a I n9, jput_a I n10]
                refine jJ_goto (pc := 56) (tgt := 79) dX7_about_56 (by decide) ?_
                refine jJ_iret (pc := 79) dX7_about_79 rfl ?_
                first | (exfalso; omega) | exact ⟨by (repeat' split) <;> first | rfl | (exfalso; omega), by (repeat' split) <;> first | rfl | (exfalso; omega), rfl⟩
            · refine jJ_aload_n (pc := 36) dX7_about_36 rfl ?_
              refine jJ_getr (pc := 37) dX7_about_37 fX7_30 rfl hR.1 hR.p9 ?_
              try simp only [rgT, rgF, jput_s, jb_00, jb_10, jb_T, jb_F, jput_a I n7, jput_a I n8, jput_a I n9, jput_a I n10]
              refine jJ_iload_n (pc := 40) dX7_about_40 rfl ?_
              refine jJ_iald (pc := 41) dX7_about_41 hR.a9 ⟨by omega, by omega⟩ ?_
              try simp only [rgT, rgF, jput_s, jb_00, jb_10, jb_T, jb_F, jput_a I n7, jput_a I n8, jput_a I n9, jput_a I n10]
              refine jJ_goto (pc := 42) (tgt := 79) dX7_about_42 (by decide) ?_
              refine jJ_iret (pc := 79) dX7_about_79 rfl ?_
              first | (exfalso; omega) | exact ⟨by (repeat' split) <;> first | rfl | (exfalso; omega), by (repeat' split) <;> first | rfl | (exfalso; omega), rfl⟩
          · refine jJ_iconst (pc := 30) dX7_about_30 (by decide) ?_
            refine jJ_iret (pc := 31) dX7_about_31 rfl ?_
            first | (exfalso; omega) | exact ⟨by (repeat' split) <;> first | rfl | (exfalso; omega), by (repeat' split) <;> first | rfl | (exfalso; omega), rfl⟩
  · rw [← jb_f ht, thM_f ht, if_neg (fun z => ht z.1), if_neg (fun z => ht z.1)]
    refine jJ_if_eq (pc := 5) (tgt := 30) dX7_about_5 (by decide) (fun c5 => ?_) (fun c5 => ?_)
    · refine jJ_iconst (pc := 30) dX7_about_30 (by decide) ?_
      refine jJ_iret (pc := 31) dX7_about_31 rfl ?_
      exact ⟨rfl, rfl, rfl⟩
    · exact absurd rfl c5
end JRPu
