section JOpt
/-- where a row stands in the order in which rows are tried -/
def key (n a b y c l : Nat) : Nat := ((((n * 10 + a) * 3 + b) * 10 + y) * 3 + c) * 3 + l
def vld (n a b y c l : Nat) : Prop := (n = 0 ∧ a = 0 ∧ b = 0 ∧ y = 0 ∧ c = 0 ∧ l < 3) ∨ (n = 1 ∧ a < 10 ∧ b < 3 ∧ y = 0 ∧ c = 0 ∧ l < 3) ∨ (n = 2 ∧ a < 10 ∧ b < 3 ∧ y < 10 ∧ y ≠ a ∧ c < 3 ∧ l < 3)
theorem key_inj {n a b y c l n' a' b' y' c' l' : Nat} (h : vld n a b y c l) (h' : vld n' a' b' y' c' l') (e : key n a b y c l = key n' a' b' y' c' l') : n = n' ∧ a = a' ∧ b = b' ∧ y = y' ∧ c = c' ∧ l = l' := by
  unfold key at e
  unfold vld at h h'
  omega
variable {F : (Int → Int → Int → Int) → Int} {tp xp : Int} {h : Nat → Int}
def csK (F : (Int → Int → Int → Int) → Int) (tp xp : Int) (n a b y c l : Nat) : Int := tp * (n : Int) + xp * F (fex n a b y c l)
def rowK (F : (Int → Int → Int → Int) → Int) (tp xp : Int) (n a b y c l : Nat) : Nat → Int := rowC n a b y c l (csK F tp xp n a b y c l) (F (fex n a b y c l))
/-- the best row of all, the first of like ones -/
def OPT (F : (Int → Int → Int → Int) → Int) (tp xp : Int) (h : Nat → Int) : Prop := ∃ n a b y c l, vld n a b y c l ∧ (∀ j, j < 8 → h j = rowK F tp xp n a b y c l j) ∧ ∀ n' a' b' y' c' l', vld n' a' b' y' c' l' → csK F tp xp n a b y c l ≤ csK F tp xp n' a' b' y' c' l' ∧ (key n' a' b' y' c' l' < key n a b y c l → csK F tp xp n a b y c l < csK F tp xp n' a' b' y' c' l')
theorem OPT_u {h' : Nat → Int} (h1 : OPT F tp xp h) (h2 : OPT F tp xp h') : ∀ j, j < 8 → h j = h' j := by
  obtain ⟨n, a, b, y, c, l, v, r, o⟩ := h1
  obtain ⟨n', a', b', y', c', l', v', r', o'⟩ := h2
  have e1 := o n' a' b' y' c' l' v'
  have e2 := o' n a b y c l v
  have ek : key n a b y c l = key n' a' b' y' c' l' := by omega
  obtain ⟨rfl, rfl, rfl, rfl, rfl, rfl⟩ := key_inj v v' ek
  intro j hj
  rw [r j hj, r' j hj]
/-- the best row of those below B -/
def PO (F : (Int → Int → Int → Int) → Int) (tp xp : Int) (h : Nat → Int) (B : Nat) : Prop := (h 6 = 1000000000 ∧ ∀ n a b y c l, vld n a b y c l → ¬ key n a b y c l < B) ∨ ∃ n a b y c l, vld n a b y c l ∧ key n a b y c l < B ∧ (∀ j, j < 8 → h j = rowK F tp xp n a b y c l j) ∧ ∀ n' a' b' y' c' l', vld n' a' b' y' c' l' → key n' a' b' y' c' l' < B → csK F tp xp n a b y c l ≤ csK F tp xp n' a' b' y' c' l' ∧ (key n' a' b' y' c' l' < key n a b y c l → csK F tp xp n a b y c l < csK F tp xp n' a' b' y' c' l')
theorem PO.jump {B B' : Nat} (hp : PO F tp xp h B) (hb : B ≤ B') (hn : ∀ n a b y c l, vld n a b y c l → B ≤ key n a b y c l → ¬ key n a b y c l < B') : PO F tp xp h B' := by
  rcases hp with ⟨h6, hv⟩ | ⟨n, a, b, y, c, l, v, k, r, o⟩
  · refine Or.inl ⟨h6, fun n a b y c l v z => ?_⟩
    have := hv n a b y c l v
    exact hn n a b y c l v (by omega) z
  · refine Or.inr ⟨n, a, b, y, c, l, v, by omega, r, fun n' a' b' y' c' l' v' k' => o n' a' b' y' c' l' v' ?_⟩
    apply Decidable.byContradiction
    intro z
    exact hn n' a' b' y' c' l' v' (by omega) k'
theorem PO.step {B n a b y c l : Nat} (hp : PO F tp xp h B) (v : vld n a b y c l) (hB : B = key n a b y c l) (hfar : csK F tp xp n a b y c l < 1000000000) : PO F tp xp (tryC F tp xp n a b y c l h) (B + 1) := by
  have ec : tp * (n : Int) + xp * F (fex n a b y c l) = csK F tp xp n a b y c l := rfl
  rcases hp with ⟨h6, hv⟩ | ⟨n0, a0, b0, y0, c0, l0, v0, k0, r0, o0⟩
  · right
    refine ⟨n, a, b, y, c, l, v, by omega, fun j _ => ?_, fun n' a' b' y' c' l' v' k' => ?_⟩
    · unfold tryC
      rw [ec, h6, if_neg (by omega)]
      rfl
    · have := hv n' a' b' y' c' l' v'
      obtain ⟨rfl, rfl, rfl, rfl, rfl, rfl⟩ := key_inj v' v (by omega)
      exact ⟨Int.le_refl _, fun z => by omega⟩
  · have e6 : h 6 = csK F tp xp n0 a0 b0 y0 c0 l0 := r0 6 (by decide)
    by_cases q : csK F tp xp n0 a0 b0 y0 c0 l0 ≤ csK F tp xp n a b y c l
    · right
      refine ⟨n0, a0, b0, y0, c0, l0, v0, by omega, fun j hj => ?_, fun n' a' b' y' c' l' v' k' => ?_⟩
      · unfold tryC
        rw [ec, e6, if_pos q]
        exact r0 j hj
      · by_cases q2 : key n' a' b' y' c' l' < B
        · exact o0 n' a' b' y' c' l' v' q2
        · obtain ⟨rfl, rfl, rfl, rfl, rfl, rfl⟩ := key_inj v' v (by omega)
          exact ⟨q, fun z => by omega⟩
    · right
      refine ⟨n, a, b, y, c, l, v, by omega, fun j _ => ?_, fun n' a' b' y' c' l' v' k' => ?_⟩
      · unfold tryC
        rw [ec, e6, if_neg q]
        rfl
      · by_cases q2 : key n' a' b' y' c' l' < B
        · have := (o0 n' a' b' y' c' l' v' q2).1
          exact ⟨by omega, fun _ => by omega⟩
        · obtain ⟨rfl, rfl, rfl, rfl, rfl, rfl⟩ := key_inj v' v (by omega)
          exact ⟨Int.le_refl _, fun z => by omega⟩
theorem key_gap {x b y n a b' y' c l : Nat} (v : vld n a b' y' c l) (q : y = x) (z1 : key 2 x b y 0 0 ≤ key n a b' y' c l) (z2 : key n a b' y' c l < key 2 x b (y + 1) 0 0) (hx : x < 10 := by omega) (hb : b < 3 := by omega) : False := by
  have hc : c < 3 ∧ l < 3 ∧ y' < 10 ∧ b' < 3 ∧ a < 10 := by unfold vld at v; omega
  unfold key at z1 z2
  have k1 : ((n * 10 + a) * 3 + b') * 10 + y' = ((2 * 10 + x) * 3 + b) * 10 + y := by
    generalize ((n * 10 + a) * 3 + b') * 10 + y' = A at *
    omega
  have k2 : (n * 10 + a) * 3 + b' = (2 * 10 + x) * 3 + b ∧ y' = y := by
    generalize (n * 10 + a) * 3 + b' = A at *
    omega
  have k3 : n * 10 + a = 2 * 10 + x := by
    have := k2.1
    generalize n * 10 + a = A at *
    omega
  unfold vld at v
  omega
/-- the order of the rows is that of their places -/
theorem lex1 {n a b y c l n' a' b' y' c' l' : Nat} (v : vld n a b y c l) (v' : vld n' a' b' y' c' l') (hk : key n' a' b' y' c' l' < key n a b y c l) (q : ¬ (n' * 10 + a') * 10 + y' < (n * 10 + a) * 10 + y) : n' = n ∧ a' = a ∧ b' ≤ b ∧ (b' = b → y' = y ∧ c' ≤ c ∧ (c' = c → l' < l)) := by
  have hc : c < 3 ∧ l < 3 ∧ y < 10 ∧ b < 3 ∧ a < 10 := by unfold vld at v; omega
  have hc' : c' < 3 ∧ l' < 3 ∧ y' < 10 ∧ b' < 3 ∧ a' < 10 := by unfold vld at v'; omega
  clear v v'
  have e : key n a b y c l = (n * 10 + a) * 270 + (b * 90 + (y * 9 + (c * 3 + l))) := by unfold key; omega
  have e' : key n' a' b' y' c' l' = (n' * 10 + a') * 270 + (b' * 90 + (y' * 9 + (c' * 3 + l'))) := by unfold key; omega
  rw [e, e'] at hk
  have hA : n' * 10 + a' = n * 10 + a := by
    generalize n * 10 + a = A at *
    generalize n' * 10 + a' = A' at *
    omega
  have hn : n' = n ∧ a' = a := by omega
  obtain ⟨rfl, rfl⟩ := hn
  refine ⟨rfl, rfl, ?_, fun hb => ?_⟩
  · omega
  · subst hb
    have hy : y' = y := by omega
    subst hy
    refine ⟨rfl, by omega, fun hc2 => by omega⟩
theorem brF_opt (hF : ∀ n x b y c l, 0 ≤ F (fex n x b y c l) ∧ F (fex n x b y c l) ≤ 2388) (htp : 0 ≤ tp ∧ tp ≤ 100) (hxp : 0 ≤ xp ∧ xp ≤ 100) (h6 : h 6 = 1000000000) : OPT F tp xp (brF F tp xp h) := by
  have far : ∀ n a b y c l : Nat, n ≤ 2 → csK F tp xp n a b y c l < 1000000000 := fun n a b y c l hn => by
    have h1 := hF n a b y c l
    have h2 : xp * F (fex n a b y c l) ≤ 100 * 2388 := Int.mul_le_mul hxp.2 h1.2 h1.1 (by decide)
    have h3 : tp * (n : Int) ≤ 100 * 2 := Int.mul_le_mul htp.2 (by omega) (by omega) (by decide)
    unfold csK
    omega
  have p0 : PO F tp xp h (key 0 0 0 0 0 0) := Or.inl ⟨h6, fun n a b y c l v z => by unfold key at z; omega⟩
  have p1 : PO F tp xp (br0 F tp xp h) (key 1 0 0 0 0 0) := by
    have := itF_ind (g := fun l => tryC F tp xp 0 0 0 0 0 (l : Int)) (Pr := fun l h => PO F tp xp h (key 0 0 0 0 0 l)) 3 0 h p0 (fun l h _ hl hp => hp.step (n := 0) (a := 0) (b := 0) (y := 0) (c := 0) (l := l) (Or.inl ⟨rfl, rfl, rfl, rfl, rfl, by omega⟩) rfl (far 0 0 0 0 0 l (by omega)))
    refine PO.jump this (by decide) (fun n a b y c l v z1 z2 => ?_)
    unfold key at z1 z2
    unfold vld at v
    omega
  have p2 : PO F tp xp (br1 F tp xp (br0 F tp xp h)) (key 2 0 0 0 0 0) := by
    refine itF_ind (Pr := fun x h => PO F tp xp h (key 1 x 0 0 0 0)) 10 0 _ p1 (fun x h _ hx hp => ?_)
    rw [show key 1 (x + 1) 0 0 0 0 = key 1 x 3 0 0 0 by unfold key; omega]
    refine itF_ind (Pr := fun b h => PO F tp xp h (key 1 x b 0 0 0)) 3 0 _ hp (fun b h _ hb hp => ?_)
    have := itF_ind (g := fun l => tryC F tp xp 1 (x : Int) (b : Int) 0 0 (l : Int)) (Pr := fun l h => PO F tp xp h (key 1 x b 0 0 l)) 3 0 h hp (fun l h _ hl hp => hp.step (n := 1) (a := x) (b := b) (y := 0) (c := 0) (l := l) (Or.inr (Or.inl ⟨rfl, by omega, by omega, rfl, rfl, by omega⟩)) rfl (far 1 x b 0 0 l (by omega)))
    refine PO.jump this (by unfold key; omega) (fun n a b' y c l v z1 z2 => ?_)
    unfold key at z1 z2
    unfold vld at v
    omega
  have p3 : PO F tp xp (brF F tp xp h) (key 2 10 0 0 0 0) := by
    unfold brF
    refine itF_ind (Pr := fun x h => PO F tp xp h (key 2 x 0 0 0 0)) 10 0 _ p2 (fun x h _ hx hp => ?_)
    have e3 : PO F tp xp _ (key 2 x 3 0 0 0) := itF_ind (g := fun b => itF (fun y h => if y = x then h else itF (fun c => itF (fun l => tryC F tp xp 2 (x : Int) (b : Int) (y : Int) (c : Int) (l : Int)) 3 0) 3 0 h) 10 0) (Pr := fun b h => PO F tp xp h (key 2 x b 0 0 0)) 3 0 _ hp (fun b h _ hb hp => by
      have e10 : PO F tp xp _ (key 2 x b 10 0 0) := itF_ind (g := fun y h => if y = x then h else itF (fun c => itF (fun l => tryC F tp xp 2 (x : Int) (b : Int) (y : Int) (c : Int) (l : Int)) 3 0) 3 0 h) (Pr := fun y h => PO F tp xp h (key 2 x b y 0 0)) 10 0 _ hp (fun y h _ hy hp => by
        by_cases q : y = x
        · show PO F tp xp (if y = x then h else _) (key 2 x b (y + 1) 0 0)
          rw [if_pos q]
          refine PO.jump hp (by unfold key; omega) (fun n a b' y' c l v z1 z2 => key_gap v q z1 z2)
        · show PO F tp xp (if y = x then h else _) (key 2 x b (y + 1) 0 0)
          rw [if_neg q]
          have ec : PO F tp xp _ (key 2 x b y 3 0) := itF_ind (g := fun c => itF (fun l => tryC F tp xp 2 (x : Int) (b : Int) (y : Int) (c : Int) (l : Int)) 3 0) (Pr := fun c h => PO F tp xp h (key 2 x b y c 0)) 3 0 _ hp (fun c h _ hc hp => by
            have el : PO F tp xp _ (key 2 x b y c 3) := itF_ind (g := fun l => tryC F tp xp 2 (x : Int) (b : Int) (y : Int) (c : Int) (l : Int)) (Pr := fun l h => PO F tp xp h (key 2 x b y c l)) 3 0 h hp (fun l h _ hl hp => hp.step (n := 2) (a := x) (b := b) (y := y) (c := c) (l := l) (Or.inr (Or.inr ⟨rfl, by omega, by omega, by omega, q, by omega, by omega⟩)) rfl (far 2 x b y c l (by omega)))
            rw [show key 2 x b y (c + 1) 0 = key 2 x b y c 3 by unfold key; omega]
            exact el)
          rw [show key 2 x b (y + 1) 0 0 = key 2 x b y 3 0 by unfold key; omega]
          exact ec)
      rw [show key 2 x (b + 1) 0 0 0 = key 2 x b 10 0 0 by unfold key; omega]
      exact e10)
    rw [show key 2 (x + 1) 0 0 0 0 = key 2 x 3 0 0 0 by unfold key; omega]
    exact e3
  rcases p3 with ⟨z, hv⟩ | ⟨n, a, b, y, c, l, v, k, r, o⟩
  · exact absurd (show key 0 0 0 0 0 0 < key 2 10 0 0 0 0 by decide) (hv 0 0 0 0 0 0 (Or.inl ⟨rfl, rfl, rfl, rfl, rfl, by decide⟩))
  · refine ⟨n, a, b, y, c, l, v, r, fun n' a' b' y' c' l' v' => o n' a' b' y' c' l' v' ?_⟩
    unfold vld at v'
    unfold key
    omega
/-! the class's search -/
def xOf (n a : Nat) : Int := if 0 < n then (a : Int) else -1
def yOf (n y : Nat) : Int := if 1 < n then (y : Int) else -1
def ck (n a y : Nat) : Nat := (n * 10 + a) * 10 + y
def vt (n a y : Nat) : Prop := (n = 0 ∧ a = 0 ∧ y = 0) ∨ (n = 1 ∧ a < 10 ∧ y = 0) ∨ (n = 2 ∧ a < 10 ∧ y < 10 ∧ y ≠ a)
theorem ck_inj {n a y n' a' y' : Nat} (h : vt n a y) (h' : vt n' a' y') (e : ck n a y = ck n' a' y') : n = n' ∧ a = a' ∧ y = y' := by
  unfold ck at e
  unfold vt at h h'
  omega
variable {f g : Nat → Int}
def wcT (f g : Nat → Int) (tp xp : Int) (n a y : Nat) : Int := wCo f g tp xp (n : Int) (xOf n a) (yOf n y)
def bB (g : Nat → Int) (xp : Int) (n a : Nat) : Nat := if 0 < n then (pick xp (wWh g (xOf n a))).toNat else 0
def bC (g : Nat → Int) (xp : Int) (n a y : Nat) : Nat := if 1 < n then (pick xp (wSe g (xOf n a) (yOf n y))).toNat else 0
def bL (f g : Nat → Int) (xp : Int) (n a y : Nat) : Nat := (pick xp (wLa f g (xOf n a) (yOf n y))).toNat
/-- the counts of the class are the sums over the gaps -/
def LNK (F : (Int → Int → Int → Int) → Int) (f g : Nat → Int) : Prop := ∀ n a b y c l, vld n a b y c l → F (fex n a b y c l) = wWh g (xOf n a) (b : Int) + wSe g (xOf n a) (yOf n y) (c : Int) + wLa f g (xOf n a) (yOf n y) (l : Int)
theorem pick_spec {xp : Int} {w : Int → Int} (hx : 0 ≤ xp) : ∀ c : Nat, c < 3 → xp * w (pick xp w) ≤ xp * w (c : Int) ∧ ((c : Int) < pick xp w → xp * w (pick xp w) < xp * w (c : Int)) := by
  intro c hc
  by_cases q : 0 < xp
  · have key : w (pick xp w) ≤ w (c : Int) ∧ ((c : Int) < pick xp w → w (pick xp w) < w (c : Int)) := by
      have hq : c = 0 ∨ c = 1 ∨ c = 2 := by omega
      unfold pick chp
      rcases hq with rfl | rfl | rfl
      · simp only [show ((0 : Nat) : Int) = 0 from rfl]
        (repeat' split) <;> refine ⟨?_, fun z => ?_⟩ <;> omega
      · simp only [show ((1 : Nat) : Int) = 1 from rfl]
        (repeat' split) <;> refine ⟨?_, fun z => ?_⟩ <;> omega
      · simp only [show ((2 : Nat) : Int) = 2 from rfl]
        (repeat' split) <;> refine ⟨?_, fun z => ?_⟩ <;> omega
    exact ⟨Int.mul_le_mul_of_nonneg_left key.1 hx, fun z => Int.mul_lt_mul_of_pos_left (key.2 z) q⟩
  · have e : xp = 0 := by omega
    have ep : pick xp w = 0 := by unfold pick chp; rw [if_neg (by omega), if_neg (by omega)]
    rw [ep, e]
    exact ⟨by omega, fun z => by omega⟩
theorem wcT_eq {n a y : Nat} : wcT f g tp xp n a y = tp * (n : Int) + (xp * wWh g (xOf n a) (pick xp (wWh g (xOf n a))) + xp * wSe g (xOf n a) (yOf n y) (pick xp (wSe g (xOf n a) (yOf n y))) + xp * wLa f g (xOf n a) (yOf n y) (pick xp (wLa f g (xOf n a) (yOf n y)))) := by
  unfold wcT wCo wEx
  rw [Int.mul_comm (n : Int) tp, Int.mul_comm _ xp, Int.mul_add, Int.mul_add]
theorem wWh_m {c : Int} : wWh g (-1) c = 0 := by unfold wWh; rw [if_pos rfl]
theorem wSe_m {x c : Int} : wSe g x (-1) c = 0 := by unfold wSe wBo; rw [wWh_m, if_pos (Or.inr rfl)]; rfl
theorem pk_nat {w : Int → Int} : (((pick xp w).toNat : Nat) : Int) = pick xp w ∧ (pick xp w).toNat < 3 := by
  have := pick_cho (xp := xp) (h := w)
  unfold cho at this
  omega
theorem best_ok {n a y : Nat} (hv : vt n a y) : vld n a (bB g xp n a) y (bC g xp n a y) (bL f g xp n a y) := by
  have h1 := (pk_nat (xp := xp) (w := wWh g (xOf n a))).2
  have h2 := (pk_nat (xp := xp) (w := wSe g (xOf n a) (yOf n y))).2
  have h3 := (pk_nat (xp := xp) (w := wLa f g (xOf n a) (yOf n y))).2
  unfold vld bB bC bL
  rcases hv with ⟨rfl, rfl, rfl⟩ | ⟨rfl, p2, rfl⟩ | ⟨rfl, p2, p3, p4⟩
  · left
    rw [if_neg (by omega), if_neg (by omega)]
    exact ⟨rfl, rfl, rfl, rfl, rfl, h3⟩
  · right; left
    rw [if_pos (by omega), if_neg (by omega)]
    exact ⟨rfl, p2, h1, rfl, rfl, h3⟩
  · right; right
    rw [if_pos (by omega), if_pos (by omega)]
    exact ⟨rfl, p2, h1, p3, p4, h2, h3⟩
/-- the cost of a row by its places -/
theorem csK_eq (hL : LNK F f g) {n a b y c l : Nat} (v : vld n a b y c l) : csK F tp xp n a b y c l = tp * (n : Int) + (xp * wWh g (xOf n a) (b : Int) + xp * wSe g (xOf n a) (yOf n y) (c : Int) + xp * wLa f g (xOf n a) (yOf n y) (l : Int)) := by
  unfold csK
  rw [hL n a b y c l v, Int.mul_add, Int.mul_add]
theorem best_cs (hL : LNK F f g) {n a y : Nat} (hv : vt n a y) : csK F tp xp n a (bB g xp n a) y (bC g xp n a y) (bL f g xp n a y) = wcT f g tp xp n a y ∧ F (fex n a (bB g xp n a) y (bC g xp n a y) (bL f g xp n a y)) = wEx f g xp (xOf n a) (yOf n y) := by
  have v := best_ok (f := f) (g := g) (xp := xp) hv
  have e1 : wWh g (xOf n a) (bB g xp n a : Int) = wWh g (xOf n a) (pick xp (wWh g (xOf n a))) := by
    unfold bB
    by_cases q : 0 < n
    · rw [if_pos q, pk_nat.1]
    · have : xOf n a = -1 := by unfold xOf; rw [if_neg q]
      rw [this, wWh_m, wWh_m]
  have e2 : wSe g (xOf n a) (yOf n y) (bC g xp n a y : Int) = wSe g (xOf n a) (yOf n y) (pick xp (wSe g (xOf n a) (yOf n y))) := by
    unfold bC
    by_cases q : 1 < n
    · rw [if_pos q, pk_nat.1]
    · have : yOf n y = -1 := by unfold yOf; rw [if_neg q]
      rw [this, wSe_m, wSe_m]
  have e3 : wLa f g (xOf n a) (yOf n y) (bL f g xp n a y : Int) = wLa f g (xOf n a) (yOf n y) (pick xp (wLa f g (xOf n a) (yOf n y))) := by
    unfold bL
    rw [pk_nat.1]
  constructor
  · rw [csK_eq hL v, e1, e2, e3, wcT_eq]
  · rw [hL _ _ _ _ _ _ v, e1, e2, e3]; rfl
def rowB (F : (Int → Int → Int → Int) → Int) (f g : Nat → Int) (tp xp : Int) (n a y : Nat) : Nat → Int := rowK F tp xp n a (bB g xp n a) y (bC g xp n a y) (bL f g xp n a y)
/-- the best of the class's rows below B -/
def CO (F : (Int → Int → Int → Int) → Int) (f g : Nat → Int) (tp xp : Int) (h : Nat → Int) (B : Nat) : Prop := ∃ n a y, vt n a y ∧ ck n a y < B ∧ (∀ j, j < 8 → h j = rowB F f g tp xp n a y j) ∧ ∀ n' a' y', vt n' a' y' → ck n' a' y' < B → wcT f g tp xp n a y ≤ wcT f g tp xp n' a' y' ∧ (ck n' a' y' < ck n a y → wcT f g tp xp n a y < wcT f g tp xp n' a' y')
theorem weigh_row (hL : LNK F f g) {n a y : Nat} (hv : vt n a y) (h : Nat → Int) : ∀ j, j < 8 → weigh f g tp xp (n : Int) (xOf n a) (yOf n y) h j = if n = 0 ∨ wcT f g tp xp n a y < h 6 then rowB F f g tp xp n a y j else h j := by
  intro j hj
  have hb := best_cs (tp := tp) (xp := xp) hL hv
  unfold weigh
  by_cases q : n = 0 ∨ wcT f g tp xp n a y < h 6
  · rw [if_pos q, if_pos (by rcases q with q | q; left; omega; right; exact q)]
    have e0 : wCo f g tp xp (n : Int) (xOf n a) (yOf n y) = csK F tp xp n a (bB g xp n a) y (bC g xp n a y) (bL f g xp n a y) := hb.1.symm
    unfold rowB rowK rowC
    rw [e0, ← hb.2]
    have ex : xOf n a = (if 0 < (n : Int) then (a : Int) else -1) := by
      unfold xOf
      by_cases z : 0 < n
      · rw [if_pos z, if_pos (by omega)]
      · rw [if_neg z, if_neg (by omega)]
    have ey : yOf n y = (if 1 < (n : Int) then (y : Int) else -1) := by
      unfold yOf
      by_cases z : 1 < n
      · rw [if_pos z, if_pos (by omega)]
      · rw [if_neg z, if_neg (by omega)]
    have e2 : (if 0 < (n : Int) then pick xp (wWh g (xOf n a)) else -1) = (if 0 < (n : Int) then (bB g xp n a : Int) else -1) := by
      by_cases z : 0 < n
      · rw [if_pos (by omega), if_pos (by omega)]
        unfold bB
        rw [if_pos z, pk_nat.1]
      · rw [if_neg (by omega), if_neg (by omega)]
    have e4 : (if 1 < (n : Int) then pick xp (wSe g (xOf n a) (yOf n y)) else -1) = (if 1 < (n : Int) then (bC g xp n a y : Int) else -1) := by
      by_cases z : 1 < n
      · rw [if_pos (by omega), if_pos (by omega)]
        unfold bC
        rw [if_pos z, pk_nat.1]
      · rw [if_neg (by omega), if_neg (by omega)]
    have e5 : pick xp (wLa f g (xOf n a) (yOf n y)) = (bL f g xp n a y : Int) := by unfold bL; rw [pk_nat.1]
    rw [e2, e4, e5, ← ex, ← ey]
  · rw [if_neg q, if_neg (by intro z; apply q; rcases z with z | z; left; omega; right; exact z)]
theorem CO.jump {B B' : Nat} (hp : CO F f g tp xp h B) (hL : LNK F f g) (hb : B ≤ B') (hn : ∀ n a y, vt n a y → B ≤ ck n a y → ck n a y < B' → h 6 ≤ wcT f g tp xp n a y) : CO F f g tp xp h B' := by
  obtain ⟨n, a, y, v, k, r, o⟩ := hp
  refine ⟨n, a, y, v, by omega, r, fun n' a' y' v' k' => ?_⟩
  by_cases q : ck n' a' y' < B
  · exact o n' a' y' v' q
  · have h1 := hn n' a' y' v' (by omega) k'
    have e6 : h 6 = wcT f g tp xp n a y := by rw [r 6 (by decide), ← (best_cs (tp := tp) (xp := xp) hL v).1]; rfl
    exact ⟨by omega, fun z => by omega⟩
theorem CO.step {B n a y : Nat} (hp : CO F f g tp xp h B) (hL : LNK F f g) (v : vt n a y) (hn : n ≠ 0) (hB : B = ck n a y) : CO F f g tp xp (weigh f g tp xp (n : Int) (xOf n a) (yOf n y) h) (B + 1) := by
  have hw := weigh_row (tp := tp) (xp := xp) hL v h
  obtain ⟨n0, a0, y0, v0, k0, r0, o0⟩ := hp
  have e6 : h 6 = wcT f g tp xp n0 a0 y0 := by rw [r0 6 (by decide), ← (best_cs (tp := tp) (xp := xp) hL v0).1]; rfl
  by_cases q : wcT f g tp xp n a y < h 6
  · refine ⟨n, a, y, v, by omega, fun j hj => by rw [hw j hj, if_pos (Or.inr q)], fun n' a' y' v' k' => ?_⟩
    by_cases q2 : ck n' a' y' < B
    · have := (o0 n' a' y' v' q2).1
      exact ⟨by omega, fun _ => by omega⟩
    · obtain ⟨rfl, rfl, rfl⟩ := ck_inj v' v (by omega)
      exact ⟨Int.le_refl _, fun z => by omega⟩
  · refine ⟨n0, a0, y0, v0, by omega, fun j hj => by rw [hw j hj, if_neg (by rintro (z | z); exact hn z; exact q z)]; exact r0 j hj, fun n' a' y' v' k' => ?_⟩
    by_cases q2 : ck n' a' y' < B
    · exact o0 n' a' y' v' q2
    · obtain ⟨rfl, rfl, rfl⟩ := ck_inj v' v (by omega)
      exact ⟨by omega, fun z => by omega⟩
theorem wcT_lo (hL : LNK F f g) (hF : ∀ n x b y c l, 0 ≤ F (fex n x b y c l)) (hxp : 0 ≤ xp) {n a y : Nat} (v : vt n a y) : tp * (n : Int) ≤ wcT f g tp xp n a y := by
  rw [← (best_cs (tp := tp) (xp := xp) hL v).1]
  unfold csK
  have := Int.mul_nonneg hxp (hF n a (bB g xp n a) y (bC g xp n a y) (bL f g xp n a y))
  omega
theorem sr1_co (hL : LNK F f g) (hF : ∀ n x b y c l, 0 ≤ F (fex n x b y c l)) (hxp : 0 ≤ xp) : ∀ (k j : Nat) (h : Nat → Int), j + k = 10 → CO F f g tp xp h (ck 1 j 0) → CO F f g tp xp (sr1 f g tp xp k j h) 200
  | 0, j, h, hj, hp => by
    have : j = 10 := by omega
    subst this
    exact hp
  | k + 1, j, h, hj, hp => by
    unfold sr1
    by_cases q : tp < h 6
    · rw [if_pos q]
      have v : vt 1 j 0 := Or.inr (Or.inl ⟨rfl, by omega, rfl⟩)
      have s := hp.step hL v (by decide) rfl
      refine sr1_co hL hF hxp k (j + 1) _ (by omega) (CO.jump s hL (by unfold ck; omega) (fun n a y v' z1 z2 => ?_))
      exfalso
      unfold ck at z1 z2
      unfold vt at v'
      omega
    · rw [if_neg q]
      refine CO.jump hp hL (by unfold ck; omega) (fun n a y v' z1 z2 => ?_)
      have hn : n = 1 := by unfold ck at z1 z2; unfold vt at v'; omega
      subst hn
      have := wcT_lo (tp := tp) hL hF hxp v'
      omega
theorem wTwo_co (hL : LNK F f g) {x : Nat} (hx : x < 10) : ∀ (k j : Nat) (h : Nat → Int), j + k = 10 → CO F f g tp xp h (ck 2 x j) → CO F f g tp xp (wTwo f g tp xp (x : Int) k j h) (ck 2 (x + 1) 0)
  | 0, j, h, hj, hp => by
    have : j = 10 := by omega
    subst this
    rw [show ck 2 (x + 1) 0 = ck 2 x 10 by unfold ck; omega]
    exact hp
  | k + 1, j, h, hj, hp => by
    unfold wTwo
    refine wTwo_co hL hx k (j + 1) _ (by omega) ?_
    by_cases q : (j : Int) = (x : Int)
    · rw [if_pos q]
      refine CO.jump hp hL (by unfold ck; omega) (fun n a y v' z1 z2 => ?_)
      exfalso
      unfold ck at z1 z2
      unfold vt at v'
      omega
    · rw [if_neg q]
      have v : vt 2 x j := Or.inr (Or.inr ⟨rfl, hx, by omega, by omega⟩)
      exact hp.step hL v (by decide) rfl
theorem sr2_co (hL : LNK F f g) (hF : ∀ n x b y c l, 0 ≤ F (fex n x b y c l)) (hxp : 0 ≤ xp) : ∀ (k j : Nat) (h : Nat → Int), j + k = 10 → CO F f g tp xp h (ck 2 j 0) → CO F f g tp xp (sr2 f g tp xp k j h) 300
  | 0, j, h, hj, hp => by
    have : j = 10 := by omega
    subst this
    exact hp
  | k + 1, j, h, hj, hp => by
    unfold sr2
    by_cases q : 2 * tp < h 6
    · rw [if_pos q]
      exact sr2_co hL hF hxp k (j + 1) _ (by omega) (wTwo_co hL (by omega) 10 0 h (by omega) hp)
    · rw [if_neg q]
      refine CO.jump hp hL (by unfold ck; omega) (fun n a y v' z1 z2 => ?_)
      have hn : n = 2 := by unfold ck at z1 z2; unfold vt at v'; omega
      subst hn
      have := wcT_lo (tp := tp) hL hF hxp v'
      omega
theorem CO.opt (hp : CO F f g tp xp h 300) (hL : LNK F f g) (hxp : 0 ≤ xp) : OPT F tp xp h := by
  obtain ⟨n, a, y, v, k, r, o⟩ := hp
  have hb := (best_cs (tp := tp) (xp := xp) hL v).1
  have vb := best_ok (f := f) (g := g) (xp := xp) v
  refine ⟨n, a, _, y, _, _, vb, r, fun n' a' b' y' c' l' v' => ?_⟩
  have vt' : vt n' a' y' := by unfold vld at v'; unfold vt; omega
  have o' := o n' a' y' vt' (by unfold ck; unfold vt at vt'; omega)
  have hb3 : b' < 3 ∧ c' < 3 ∧ l' < 3 := by unfold vld at v'; omega
  have p1 := pick_spec (w := wWh g (xOf n' a')) hxp b' hb3.1
  have p2 := pick_spec (w := wSe g (xOf n' a') (yOf n' y')) hxp c' hb3.2.1
  have p3 := pick_spec (w := wLa f g (xOf n' a') (yOf n' y')) hxp l' hb3.2.2
  have e' := csK_eq (tp := tp) (xp := xp) hL v'
  have w' := wcT_eq (f := f) (g := g) (tp := tp) (xp := xp) (n := n') (a := a') (y := y')
  rw [hb]
  refine ⟨by omega, fun hk => ?_⟩
  by_cases q : ck n' a' y' < ck n a y
  · have := o'.2 q
    omega
  · have q1 := (pk_nat (xp := xp) (w := wWh g (xOf n' a')))
    have q2 := (pk_nat (xp := xp) (w := wSe g (xOf n' a') (yOf n' y')))
    have q3 := (pk_nat (xp := xp) (w := wLa f g (xOf n' a') (yOf n' y')))
    have lx := lex1 vb v' hk (by unfold ck at q; exact q)
    clear hk q
    obtain ⟨rfl, rfl, lb, lr⟩ := lx
    by_cases z1 : b' < bB g xp n' a'
    · have hn0 : 0 < n' := by
        unfold bB at z1
        apply Decidable.byContradiction
        intro z
        rw [if_neg z] at z1
        omega
      have : (b' : Int) < pick xp (wWh g (xOf n' a')) := by
        unfold bB at z1
        rw [if_pos hn0] at z1
        omega
      have := p1.2 this
      omega
    · obtain ⟨rfl, lc, ll⟩ := lr (by omega)
      by_cases z2 : c' < bC g xp n' a' y'
      · have hn1 : 1 < n' := by
          unfold bC at z2
          apply Decidable.byContradiction
          intro z
          rw [if_neg z] at z2
          omega
        have : (c' : Int) < pick xp (wSe g (xOf n' a') (yOf n' y')) := by
          unfold bC at z2
          rw [if_pos hn1] at z2
          omega
        have := p2.2 this
        omega
      · have hl : l' < bL f g xp n' a' y' := ll (by omega)
        have : (l' : Int) < pick xp (wLa f g (xOf n' a') (yOf n' y')) := by
          unfold bL at hl
          omega
        have := p3.2 this
        omega
theorem srch_opt (hL : LNK F f g) (hF : ∀ n x b y c l, 0 ≤ F (fex n x b y c l)) (hxp : 0 ≤ xp) : OPT F tp xp (srch f g tp xp h) := by
  have v : vt 0 0 0 := Or.inl ⟨rfl, rfl, rfl⟩
  have p0 : CO F f g tp xp (weigh f g tp xp 0 (-1) (-1) h) (ck 1 0 0) := by
    refine ⟨0, 0, 0, v, by decide, fun j hj => ?_, fun n' a' y' v' k' => ?_⟩
    · have := weigh_row (tp := tp) (xp := xp) hL v h j hj
      rw [if_pos (Or.inl rfl)] at this
      exact this
    · have hq : n' = 0 ∧ a' = 0 ∧ y' = 0 := by unfold ck at k'; unfold vt at v'; omega
      obtain ⟨rfl, rfl, rfl⟩ := hq
      exact ⟨Int.le_refl _, fun z => by omega⟩
  exact (sr2_co hL hF hxp 10 0 _ (by omega) (sr1_co hL hF hxp 10 0 _ (by omega) p0)).opt hL hxp
end JOpt
