section JCts
variable {E : jE} {I : jI} {P : jP} {d b : Nat} {A : State → Prop}
theorem hv_arr {t : FieldType} (ht : ∃ u, t = .array u) (b : Nat) : narrow t (.ref b) = .ref b ∧ fits t (.ref b) = true := by
  obtain ⟨u, rfl⟩ := ht
  exact ⟨rfl, rfl⟩
theorem n_Maker (hb : jK E 1 b) (hd : 1 ≤ d) : jN E A yX1_init cX1_init 1 d 1 32 [jp b] I P (fun E' I' P' => ∃ r, RM E I P b [(0, 8, 32, r)] E' I' P') := by
  refine jN_intro (by decide +kernel) rfl (by simp [jc, va_rf, Value.category]) (Nat.le_of_ble_eq_true rfl) ?_
  refine jJ_aload_n (pc := 0) dX1_init_0 rfl ?_
  refine jJ_objInit (pc := 1) dX1_init_1 oiX1 oiI oiC (Nat.le_of_ble_eq_true rfl) ⟨hd, by show 20 ≤ 60 * d; omega⟩ ?_
  refine jJ_aload_n (pc := 4) dX1_init_4 rfl ?_
  refine jJ_bipush (pc := 5) dX1_init_5 (by decide) ?_
  refine mk_row (pc := 7) (kd := 8) (n := 32) (RM.nil hb.1) hb.2 dX1_init_7 (Or.inl ⟨rfl, rfl⟩) ac_byte (by decide) ⟨Nat.le_of_ble_eq_true rfl, Nat.le_of_ble_eq_true rfl⟩ dX1_init_9 fX1_9F rfl (hv_arr ⟨_, rfl⟩) (by simp) ?_
  intro r E1 I1 P1 h1
  exact jJ_vretN (pc := 12) h1.1 dX1_init_12 rfl ⟨r, h1⟩
end JCts
