section JEq4
variable {I K : jI} {x : Nat → Nat} {q u : Nat → Nat → Nat} {X : Nat → TX} {th : Nat → Int} {t hb : Nat → Nat} {tp xp : Int}
theorem sG_01 {f : Int → Int → Int → Int} (hf : ∀ u v w, f u v w = 0 ∨ f u v w = 1) {x : TX} {kd : Int} : ∀ (k i : Nat), 0 ≤ sG f x kd i k ∧ sG f x kd i k ≤ k
  | 0, i => by simp [sG]
  | k + 1, i => by
    have := sG_01 hf (x := x) (kd := kd) k (i + 1)
    have h := hf (xTs x i) (jb (kd = 15)) (xCh x i)
    simp only [sG]
    split <;> omega
theorem sT_01 {f : Int → Int → Int → Int} (hf : ∀ u v w, f u v w = 0 ∨ f u v w = 1) {kd : Int} (h : ∀ t, t < 12 → th t ≠ 0 → (xT (X t)).length ≤ 200) : ∀ (k t : Nat), t + k ≤ 12 → 0 ≤ sT f th X kd t k ∧ sT f th X kd t k ≤ 199 * k
  | 0, t, _ => by simp [sT]
  | k + 1, t, ht => by
    have h1 := sT_01 hf (kd := kd) h k (t + 1) (by omega)
    have h2 := sG_01 hf (x := X t) (kd := kd) ((xT (X t)).length - 1) 0
    simp only [sT]
    by_cases q : th t ≠ 0
    · rw [if_pos q]
      have := h t (by omega) q
      omega
    · rw [if_neg q]
      omega
theorem fnM_row (hh : ∀ i j, i < 16 → j < 16 → hb i = hb j → i = j) (ht : ∀ i j, i < 16 → j < 16 → hb i ≠ t j) : ∀ k, k ≤ 16 → ∀ i, i < k → ∀ j, j < 8 → fnM K tp xp t hb u k (hb i) j = srch (K (u i 0)) (K (u i 1)) tp xp (fnM K tp xp t hb u i (hb i)) j
  | 0, _, i, hi, _, _ => absurd hi (by omega)
  | k + 1, hk, i, hi, j, hj => by
    rw [fnM]
    by_cases q : i = k
    · subst q
      rw [habR_s hj]
    · rw [habR_x (fun z => q (hh _ _ (by omega) (by omega) z)), jput_a _ (ht i k (by omega) (by omega)), jput_a _ (ht i k (by omega) (by omega))]
      exact fnM_row hh ht k (by omega) i (by omega) j hj
theorem find_eq {S : Nat → Nat → Int} (hu : TaD u) (hG : CG I x q th X) (hl : ∀ t, t < 12 → th t ≠ 0 → (xT (X t)).length ≤ 200) (hh : ∀ i j, i < 16 → j < 16 → hb i = hb j → i = j) (ht : ∀ i j, i < 16 → j < 16 → hb i ≠ t j) (htp : 0 ≤ tp ∧ tp ≤ 100) (hxp : 0 ≤ xp ∧ xp ≤ 100) (hS : ∀ k, k < 16 → ∃ h : Nat → Int, h 6 = 1000000000 ∧ ∀ j, j < 8 → S k j = brF (fun f => sT f th X (k : Int) 0 12) tp xp h j) : (∀ k j, k < 16 → j < 8 → fnM (taM I x q u) tp xp t hb u 16 (hb k) j = S k j) ∧ fnC (taM I x q u) tp xp t hb u 16 = sS S 16 := by
  have key : ∀ k, k < 16 → ∀ h j, j < 8 → srch (taM I x q u (u k 0)) (taM I x q u (u k 1)) tp xp h j = S k j := by
    intro k hk h j hj
    obtain ⟨h', h6, hs⟩ := hS k hk
    have hF : ∀ n x b y c l, 0 ≤ (fun f => sT f th X (k : Int) 0 12) (fex n x b y c l) ∧ (fun f => sT f th X (k : Int) 0 12) (fex n x b y c l) ≤ 2388 := fun n x b y c l => by
      have := sT_01 (th := th) (X := X) (kd := (k : Int)) (fex_01 n x b y c l) hl 12 0 (by omega)
      exact ⟨this.1, by have := this.2; show sT (fex n x b y c l) th X (k : Int) 0 12 ≤ 2388; omega⟩
    rw [hs j hj]
    exact OPT_u (srch_opt (lnk_ok hu hk hG) (fun n x b y c l => (hF n x b y c l).1) hxp.1) (brF_opt hF htp hxp h6) j hj
  refine ⟨fun k j hk hj => ?_, ?_⟩
  · rw [fnM_row hh ht 16 (by omega) k hk j hj]
    exact key k hk _ j hj
  · have : ∀ k, k ≤ 16 → fnC (taM I x q u) tp xp t hb u k = sS S k := by
      intro k
      induction k with
      | zero => intro _; rfl
      | succ k ih => intro hk; rw [fnC, sS, ih (by omega), key k (by omega) _ 6 (by decide)]
    exact this 16 (by omega)
end JEq4
