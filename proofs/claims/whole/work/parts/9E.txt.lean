section JTxt
theorem pushS_7 (s : Nat → Int) : pushS s 7 = s 7 := by unfold pushS; split <;> rfl
theorem endBrS_7 (s r : Nat → Int) : endBrS s r 7 = s 7 := rfl
theorem endBlS_7 (s r : Nat → Int) : endBlS s r 7 = s 7 := by unfold endBlS; split <;> rfl
theorem stBlS_7 (s : Nat → Int) : stBlS s 7 = s 7 := by unfold stBlS; rw [pushS_7]; rfl
theorem stmS_7 (s r : Nat → Int) : stmS s r 7 = s 7 := by unfold stmS; (repeat' split) <;> first | rfl | exact endBlS_7 s r
theorem sptS_7 (s : Nat → Int) : sptS s 7 = s 7 := by unfold sptS; (repeat' split) <;> first | rfl | (rw [pushS_7]; rfl)
theorem goS_7 (s r : Nat → Int) : goS s r 7 = s 7 := by unfold goS; (repeat' split) <;> first | rfl | exact stBlS_7 s
theorem stdS_7 (s r : Nat → Int) : stdS s r 7 = s 7 := by
  unfold stdS
  (repeat' split) <;> first | rfl | exact sptS_7 s | exact goS_7 s r | exact stmS_7 s r | exact stBlS_7 s | (rw [pushS_7]; rfl)
/-- where there is no FAULT there is no place -/
theorem rd_7 {f : Nat → Int} {n : Nat} : ∀ (k : Nat) (s r : Nat → Int) (ts : List T5), s 7 = -1 → (rdGo f n k s r ts).1 = 0 → (rdGo f n k s r ts).2.1 7 = -1
  | 0, s, r, ts, _, h => absurd h (by simp [rdGo])
  | k + 1, s, r, ts, h7, h => by
    have e7 : scS f n s 7 = -1 := by rw [scS_v f n s (by decide) (by decide) (by decide)]; exact h7
    simp only [rdGo] at h ⊢
    by_cases q8 : scS f n s 10 = 8
    · rw [if_pos q8] at h ⊢
      split
      · exact e7
      · rename_i z
        rw [if_neg z] at h
        exact absurd h (by show ¬ (1 : Int) = 0; decide)
    · rw [if_neg q8] at h ⊢
      by_cases qv : stdV (scS f n s) r = 0
      · rw [if_pos qv] at h
        exact absurd h (by show ¬ (1 : Int) = 0; decide)
      · rw [if_neg qv] at h ⊢
        by_cases qt : tooB ts.length (stdS (scS f n s) r) = true
        · rw [if_pos qt] at h
          exact absurd h (by show ¬ (2 : Int) = 0; decide)
        · rw [if_neg qt] at h ⊢
          exact rd_7 k _ _ _ (by rw [stdS_7]; exact e7) h
/-- the reading of n bytes g -/
def rdW (g : Nat → Int) (n : Nat) : RdRes := rdGo g n 201 (rdS0 (fun _ => 0)) (fun _ => 0) []
theorem rdW_cg {g g' : Nat → Int} {n : Nat} (hg : ∀ k, k < n → 0 ≤ g k ∧ g k ≤ 255) (e : ∀ k, k < n → g' k = g k) (h0 r0 : Nat → Int) : rdGo g' n 201 (rdS0 h0) r0 [] = rdGo g n 201 (rdS0 h0) r0 [] := by
  have h1 := rdGo_cg (f := fun k => jB (g k)) (g := g') (n := n) (fun k hk => by rw [e k hk]; exact bR_jB (hg k hk)) 201 (rdS0 h0) r0 []
  have h2 := rdGo_cg (f := fun k => jB (g k)) (g := g) (n := n) (fun k hk => bR_jB (hg k hk)) 201 (rdS0 h0) r0 []
  exact h1.symm.trans h2
theorem bad_of {l : List Int} (hb : byt l) (h : (rdW (fun k => l.getD k 0) l.length).1 ≠ 0) : bad l := by
  intro g h0 r0 e
  have hg : ∀ k, k < l.length → 0 ≤ l.getD k 0 ∧ l.getD k 0 ≤ 255 := fun k hk => hb _ (by
    rw [List.getD_eq_getElem?_getD, List.getElem?_eq_getElem hk]
    exact List.getElem_mem _)
  rw [rdW_cg (g := fun k => l.getD k 0) hg e, (read_ind h0 (fun _ => 0) r0 (fun _ => 0)).1]
  exact h
/-- the TEXT that was read -/
def rdT (g : Nat → Int) (n : Nat) (hand : Int) : TX := (n, g, hand, (rdW g n).2.2.2.1, (rdW g n).2.1 6)
theorem rdT_ok {g : Nat → Int} {n : Nat} {hand : Int} (hn : n ≤ 800) (hg : ∀ k, k < n → 0 ≤ g k ∧ g k ≤ 255) (hh : 0 ≤ hand ∧ hand ≤ 3) (h : (rdW g n).1 = 0) : WX (rdT g n hand) := ⟨hn, hg, hh, rdGo_len 201 _ _ [] (by decide), read_wt h⟩
theorem RT.fg {I : jI} {a : Nat → Nat} {t n : Nat} {g g' : Nat → Int} {hand s s' : Int} {ts ts' : List T5} (h : RT I a t (n, g', hand, ts', s')) (eg : ∀ k, k < n → g' k = g k) (et : ts' = ts) (es : s' = s) : RT I a t (n, g, hand, ts, s) := by
  subst et
  subst es
  exact ⟨h.1, h.2.1, h.2.2.1, h.2.2.2.1, fun k hk => (h.2.2.2.2.1 k hk).trans (eg k hk), h.2.2.2.2.2⟩
variable {E : jE} {I I' J : jI} {P P' : jP} {d h m sp rd op s : Nat} {c x t hb a qs : Nat → Nat} {q u : Nat → Nat → Nat} {C : Nat → Prop} {tp l l' : List Int} {th nb nb' : Nat → Int} {X : Nat → TX} {S : Nat → Nat → Int}
/-! the memory behind a reading -/
theorem rpM2_x {n hand : Int} {b : Nat} (h1 : b ≠ sp) (h2 : ∀ j, j ≤ 7 → b ≠ qs j) (h3 : b ≠ rd) (h4 : b ≠ op) : rpM2 I sp rd op s qs n hand b = I b := by
  funext k
  unfold rpM2 rdRM
  rw [rdM_x h3 h4]
  split
  · rw [jput_a _ h1, tkM_x h1 (h2 1 (by decide)) (h2 2 (by decide)) (h2 3 (by decide)) (h2 4 (by decide)) (h2 5 (by decide)), staM_x h1 (h2 0 (by decide))]
  · rw [tkM_x h1 (h2 1 (by decide)) (h2 2 (by decide)) (h2 3 (by decide)) (h2 4 (by decide)) (h2 5 (by decide)), staM_x h1 (h2 0 (by decide))]
theorem rpM4_x {n hand : Int} {b : Nat} (h1 : b ≠ sp) (h2 : ∀ j, j ≤ 7 → b ≠ qs j) (h3 : b ≠ rd) (h4 : b ≠ op) : rpM4 I sp rd op s qs n hand b = I b := by
  rw [← rpM2_x (I := I) (s := s) (n := n) (hand := hand) h1 h2 h3 h4]
  funext k
  unfold rpM4
  rw [jput_a _ h1, gapM_x (h2 6 (by decide)) (h2 7 (by decide))]
theorem rpM2_7 {n hand : Int} : rpM2 I sp rd op s qs n hand rd 7 = (rpR I sp rd op s qs n hand).2.1 7 := by
  unfold rpM2 rdRM rdM
  rw [if_pos ⟨rfl, by decide, by decide⟩]
theorem rpM4_7 {n hand : Int} (h1 : rd ≠ sp) (h2 : ∀ j, j ≤ 7 → rd ≠ qs j) : rpM4 I sp rd op s qs n hand rd 7 = (rpR I sp rd op s qs n hand).2.1 7 := by
  unfold rpM4
  rw [jput_a _ h1, gapM_x (h2 6 (by decide)) (h2 7 (by decide)), rpM2_7]
theorem rp_g {g : Nat → Int} {n : Nat} {hand : Int} (hx : TxL E P sp qs) (hs : s ≠ sp) (hn : n ≤ 800) (hb : ∀ k, k < n → bR (I s k) (g k)) : rpR I sp rd op s qs (n : Int) hand = rdGo g n 201 (rdS0 (staM I sp (qs 0) s (n : Int) hand rd)) (staM I sp (qs 0) s (n : Int) hand op) [] := by
  unfold rpR
  rw [Int.toNat_natCast]
  exact rdGo_cg (fun k hk => by rw [staM_b (hx.xq 0 (by decide)) hn hk hs]; exact hb k hk) 201 _ _ _
theorem rp_w {g : Nat → Int} {n : Nat} {hand : Int} (hx : TxL E P sp qs) (hs : s ≠ sp) (hn : n ≤ 800) (hb : ∀ k, k < n → bR (I s k) (g k)) : (rpR I sp rd op s qs (n : Int) hand).1 = (rdW g n).1 ∧ (rpR I sp rd op s qs (n : Int) hand).2.1 7 = (rdW g n).2.1 7 ∧ (rpR I sp rd op s qs (n : Int) hand).2.1 6 = (rdW g n).2.1 6 ∧ (rpR I sp rd op s qs (n : Int) hand).2.2.2.1 = (rdW g n).2.2.2.1 := by
  rw [rp_g hx hs hn hb]
  exact read_ind _ _ _ _
end JTxt
