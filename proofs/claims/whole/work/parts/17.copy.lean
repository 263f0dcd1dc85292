theorem acp_1 : Cond.methodLink RX5 50 arraycopyName ∈ jT := jT_mem (tb_3 (List.mem_of_getElem? (i := 4) (by decide +kernel))) rfl
theorem acp_2 : Cond.native arraycopyName ∈ jT := jT_mem (tb_3 (List.mem_of_getElem? (i := 6) (by decide +kernel))) rfl
theorem acp_3 : Cond.static arraycopyName ∈ jT := jT_mem (tb_3 (List.mem_of_getElem? (i := 5) (by decide +kernel))) rfl
theorem acp_4 : Cond.initialized "java/lang/System" ∈ jT := jT_mem (tb_1 (List.mem_of_getElem? (i := 14) (by decide +kernel))) rfl
section JCp
def cpM (I : jI) (q0 q1 s d n : Nat) : jI := fun a k => if a = q1 ∧ d ≤ k ∧ k < d + n then I q0 (s + (k - d)) else I a k
variable {E : jE} {own : String} {cc : ByteArray} {nL : Nat} {rt : Option FieldType} {R : Room} {Z : Code → List Frame → Array Value → State → State → Prop} {cs ss pc : Nat} {ls : List (Option jV)} {st : List jV} {I : jI} {P : jP}
theorem jfits_byte {x : Int} (h : -128 ≤ x ∧ x ≤ 127) : fits .byte (.int (Int32.ofInt x)) = true := by
  have e : Int32.ofInt x = (Int32.ofInt x).toInt8.toInt32 := by
    apply Int32.toInt_inj.mp
    rw [Int8.toInt_toInt32, Int32.toInt_toInt8, j32 ⟨by omega, by omega⟩]
    exact (Int.bmod_eq_of_le (by omega) (by omega)).symm
  rw [e]
  exact pk_fb _
theorem jJ_copyb {idx q0 q1 n0 n1 : Nat} {sp dp n : Int} (hd : decode cc pc = .ok (.invokestatic idx, 3)) (hw : Cond.methodLink own idx arraycopyName ∈ jT) (h0 : jAr E 8 q0 n0) (h1 : jAr E 8 q1 n1) (hb : 0 ≤ sp ∧ 0 ≤ dp ∧ 0 ≤ n ∧ sp + n ≤ n0 ∧ dp + n ≤ n1) (hfit : ∀ i : Nat, i < n.toNat → -128 ≤ I q0 (sp.toNat + i) ∧ I q0 (sp.toNat + i) ≤ 127) (hst : (st.map (fun v => (jc v).category)).sum ≤ 8) (hR : 1 ≤ R.frames ∧ 8 + (nativeFrameWords "java/lang/System" "arraycopy" 5 + 11) ≤ R.locals)
    (kk : jJ E own cc nL rt R Z cs ss (pc + 3) ls st (cpM I q0 q1 sp.toNat dp.toNat n.toNat) P) : jJ E own cc nL rt R Z cs ss pc ls (ji n :: ji dp :: jp q1 :: ji sp :: jp q0 :: st) I P := by
  intro p e s m args below meth c H locs la hc hH hS hl r1 r2
  obtain ⟨i0, hi0⟩ := jPool_get (I := I) (P := P) h0.1
  obtain ⟨i1, hi1⟩ := jPool_get (I := I) (P := P) h1.1
  obtain ⟨b1, b2, b3, b4, b5⟩ := hb
  have hn : jR n := r2.1
  have hdp : jR dp := r2.2.1
  have hsp : jR sp := r2.2.2.2.1
  have hset := jPool_set (I' := cpM I q0 q1 sp.toNat dp.toNat n.toNat) (P' := P) (v := .inl (eCy E 8, n1, .inl (va_cpy (fun j => Int32.ofInt (I q0 j)) (fun j => Int32.ofInt (I q1 j)) sp.toNat dp.toNat n.toNat))) hH.2.1 h1.1 hi1 (by
    rw [jCell_arr h1 (by decide) (by decide)]
    have : va_cpy (fun j => Int32.ofInt (I q0 j)) (fun j => Int32.ofInt (I q1 j)) sp.toNat dp.toNat n.toNat = fun j => Int32.ofInt (cpM I q0 q1 sp.toNat dp.toNat n.toNat q1 j) := by
      funext j
      simp only [va_cpy, cpM, true_and]
      split <;> rfl
    rw [this]) (fun b j hb => by simp [cpM, hb]) (fun b j hb => rfl)
  rw [jCell_arr h0 (by decide) (by decide)] at hi0
  rw [jCell_arr h1 (by decide) (by decide)] at hi1
  have c1 := j32_clamp hsp b1
  have c2 := j32_clamp hdp b2
  have c3 := j32_clamp hn b3
  refine va_copyi (ty := .byte) hc.1 hc.2.1 (hc.2.2.2.1.trans hl.size.symm) hc.2.2.2.2.1 (hc.2.2.2.2.2.1 _ hw) (hc.2.2.2.2.2.1 _ acp_2) (hc.2.2.2.2.2.1 _ acp_3) (hc.2.2.2.2.2.1 _ acp_4) hc.2.2.2.2.2.2.2.1 hH.1 hH.2.1 hS i0 i1 0 0 hi0 hi1 rfl rfl rfl (sp := Int32.ofInt sp) (dp := Int32.ofInt dp) (n := Int32.ofInt n) (fun z => by have := (j32_lt0 hsp).mp z; omega) (fun z => by have := (j32_lt0 hdp).mp z; omega) (fun z => by have := (j32_lt0 hn).mp z; omega) (by rw [c1, c3]; omega) (by rw [c2, c3]; omega) (fun i hi => by rw [c3] at hi; rw [c1]; exact jfits_byte (hfit i hi)) hR.1 (by rw [List.map_map]; exact Nat.le_trans (Nat.add_le_add_right hst _) hR.2) hd (fun H1 locs1 hP1 hD1 hS1 => ?_)
  rw [c1, c2, c3] at hP1 hD1
  refine kk p e s m args below meth c H1 locs1 la hc ⟨by rw [← hset]; exact hP1, by rw [← hset]; exact hD1, fun a k => ?_⟩ hS1 hl r1 r2.2.2.2.2.2
  unfold cpM
  split
  · exact hH.2.2 _ _
  · exact hH.2.2 _ _
theorem jRm_cp {d : Nat} (h : 2 ≤ d) : 1 ≤ (jRm d).frames ∧ 8 + (nativeFrameWords "java/lang/System" "arraycopy" 5 + 11) ≤ (jRm d).locals := by
  refine ⟨by show 1 ≤ d; omega, ?_⟩
  have h1 : 8 + (nativeFrameWords "java/lang/System" "arraycopy" 5 + 11) ≤ 120 := by decide +kernel
  show _ ≤ 60 * d
  omega
end JCp
