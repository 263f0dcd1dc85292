section JLnk
variable {I : jI} {u : Nat → Nat} {kd bits ch : Int}
theorem cnt_0 (hne : u 0 ≠ u 1) {c : Nat} (hc : c < 3) : cntM I u kd bits ch 3 (u 0) c = I (u 0) c + (if kepA kd (c : Int) ≠ ch then 1 else 0) := by
  have st : ∀ m, cntM I u kd bits ch (m + 1) (u 0) c = cntM I u kd bits ch m (u 0) c + (if m = c ∧ kepA kd (m : Int) ≠ ch then 1 else 0) := by
    intro m
    by_cases q : kepA kd (m : Int) = ch
    · rw [cntM_t q, if_neg (fun z => z.2 q)]; omega
    · rw [cntM_f q, cwM_x hne]
      by_cases q2 : m = c
      · subst q2
        rw [jput_s, if_pos ⟨rfl, q⟩]
      · rw [jput_k _ (by omega), if_neg (fun z => q2 z.1)]; omega
  rw [st 2, st 1, st 0]
  have h0 : cntM I u kd bits ch 0 (u 0) c = I (u 0) c := rfl
  rw [h0]
  have hq : c = 0 ∨ c = 1 ∨ c = 2 := by omega
  rcases hq with rfl | rfl | rfl <;> simp
theorem cnt_1 (hne : u 0 ≠ u 1) {k : Nat} (hk : k < 300) : cntM I u kd bits ch 3 (u 1) k = I (u 1) k + (if kepA kd ((k % 3 : Nat) : Int) ≠ ch ∧ jAnd (jShr bits ((k / 3 / 10 : Nat) : Int)) 1 = 1 ∧ jAnd (jShr bits ((k / 3 % 10 : Nat) : Int)) 1 = 1 then 1 else 0) := by
  have st : ∀ m, m < 3 → cntM I u kd bits ch (m + 1) (u 1) k = cntM I u kd bits ch m (u 1) k + (if k % 3 = m ∧ kepA kd (m : Int) ≠ ch ∧ jAnd (jShr bits ((k / 3 / 10 : Nat) : Int)) 1 = 1 ∧ jAnd (jShr bits ((k / 3 % 10 : Nat) : Int)) 1 = 1 then 1 else 0) := by
    intro m hm
    by_cases q : kepA kd (m : Int) = ch
    · rw [cntM_t q, if_neg (fun z => z.2.1 q)]; omega
    · rw [cntM_f q]
      unfold cwM
      rw [jput_a _ (Ne.symm hne)]
      by_cases q2 : k % 3 = m ∧ jAnd (jShr bits ((k / 3 / 10 : Nat) : Int)) 1 = 1 ∧ jAnd (jShr bits ((k / 3 % 10 : Nat) : Int)) 1 = 1
      · rw [if_pos ⟨rfl, by omega, q2.1, q2.2⟩, if_pos ⟨q2.1, q, q2.2⟩]
      · rw [if_neg (fun z => q2 ⟨z.2.2.1, z.2.2.2⟩), if_neg (fun z => q2 ⟨z.1, z.2.2⟩)]; omega
  rw [st 2 (by decide), st 1 (by decide), st 0 (by decide)]
  have h0 : cntM I u kd bits ch 0 (u 1) k = I (u 1) k := rfl
  rw [h0]
  have hq : k % 3 = 0 ∨ k % 3 = 1 ∨ k % 3 = 2 := by omega
  rcases hq with h | h | h <;> rw [h] <;> simp
end JLnk
section JLnk2
/-- what a gap adds to the counts of the class -/
def f0 (kd : Int) (c : Nat) : Int → Int → Int → Int := fun _ _ ch => if kepA kd (c : Int) ≠ ch then 1 else 0
def f1 (kd : Int) (k : Nat) : Int → Int → Int → Int := fun bits _ ch => if kepA kd ((k % 3 : Nat) : Int) ≠ ch ∧ jAnd (jShr bits ((k / 3 / 10 : Nat) : Int)) 1 = 1 ∧ jAnd (jShr bits ((k / 3 % 10 : Nat) : Int)) 1 = 1 then 1 else 0
theorem cntM_ne {I : jI} {u : Nat → Nat → Nat} (hu : TaD u) {k l : Nat} (hk : k < 16) (hl : l < 16) (h : k ≠ l) {kd bits ch : Int} {i : Nat} (hi : i < 2) : cntM I (u l) kd bits ch 3 (u k i) = I (u k i) := by
  funext j
  exact cntM_x (fun z => h (hu k l i 0 hk hl hi (by decide) z).1) (fun z => h (hu k l i 1 hk hl hi (by decide) z).1) 3 j
variable {u : Nat → Nat → Nat} {x : TX}
theorem tg_0 (hu : TaD u) {kk c : Nat} (hk : kk < 16) (hc : c < 3) {kd tst ch : Nat → Int} {n : Nat} (hd : ∀ g, g < n → kd g = xKd x g ∧ tst g = xTs x g ∧ ch g = xCh x g) : ∀ (k g : Nat) (J : jI), g + k = n → tgM J kd tst ch u g k (u kk 0) c = J (u kk 0) c + sG (f0 (kk : Int) c) x (kk : Int) g k
  | 0, g, J, _ => by simp [tgM, sG]
  | k + 1, g, J, hg => by
    have hd0 := hd g (by omega)
    have hr := xKd_r x g
    simp only [tgM, sG]
    rw [tg_0 hu hk hc hd k (g + 1) _ (by omega), ← Int.add_assoc]
    congr 1
    rw [hd0.1, hd0.2.1, hd0.2.2]
    by_cases q : xKd x g = (kk : Int)
    · rw [q, Int.toNat_natCast, if_pos rfl, cnt_0 (fun z => by have := (hu kk kk 0 1 hk hk (by decide) (by decide) z).2; omega) hc]
      rfl
    · rw [cntM_ne hu hk (by omega) (by omega) (by decide), if_neg q]; omega
theorem tg_1 (hu : TaD u) {kk c : Nat} (hk : kk < 16) (hc : c < 300) {kd tst ch : Nat → Int} {n : Nat} (hd : ∀ g, g < n → kd g = xKd x g ∧ tst g = xTs x g ∧ ch g = xCh x g) : ∀ (k g : Nat) (J : jI), g + k = n → tgM J kd tst ch u g k (u kk 1) c = J (u kk 1) c + sG (f1 (kk : Int) c) x (kk : Int) g k
  | 0, g, J, _ => by simp [tgM, sG]
  | k + 1, g, J, hg => by
    have hd0 := hd g (by omega)
    have hr := xKd_r x g
    simp only [tgM, sG]
    rw [tg_1 hu hk hc hd k (g + 1) _ (by omega), ← Int.add_assoc]
    congr 1
    rw [hd0.1, hd0.2.1, hd0.2.2]
    by_cases q : xKd x g = (kk : Int)
    · rw [q, Int.toNat_natCast, if_pos rfl, cnt_1 (fun z => by have := (hu kk kk 0 1 hk hk (by decide) (by decide) z).2; omega) hc]
      rfl
    · rw [cntM_ne hu hk (by omega) (by omega) (by decide), if_neg q]; omega
/-- the class sees the gaps of the TEXTS X -/
def CG (I : jI) (x : Nat → Nat) (q : Nat → Nat → Nat) (th : Nat → Int) (X : Nat → TX) : Prop := ∀ t, t < 12 → (I (x t) 8 ≠ 0 ↔ th t ≠ 0) ∧ (th t ≠ 0 → gapsN (I (x t) 11) = (xT (X t)).length - 1 ∧ ∀ g, g < (xT (X t)).length - 1 → I (q t 6) g = xKd (X t) g ∧ tstV (I (q t 5) g) (I (x t) 10) (I (q t 4) (g + 1)) = xTs (X t) g ∧ I (q t 7) g = xCh (X t) g)
variable {I : jI} {xs : Nat → Nat} {q : Nat → Nat → Nat} {th : Nat → Int} {X : Nat → TX}
theorem ts_0 (hu : TaD u) {kk c : Nat} (hk : kk < 16) (hc : c < 3) (hG : CG I xs q th X) : ∀ (k t : Nat) (J : jI), t + k = 12 → tsM I xs q u t k J (u kk 0) c = J (u kk 0) c + sT (f0 (kk : Int) c) th X (kk : Int) t k
  | 0, t, J, _ => by simp [tsM, sT]
  | k + 1, t, J, ht => by
    obtain ⟨h1, h2⟩ := hG t (by omega)
    simp only [tsM, sT]
    rw [ts_0 hu hk hc hG k (t + 1) _ (by omega), ← Int.add_assoc]
    congr 1
    by_cases z : th t ≠ 0
    · rw [if_pos z, if_pos (h1.mpr z), (h2 z).1]
      exact tg_0 hu hk hc (h2 z).2 _ 0 J (by omega)
    · rw [if_neg z, if_neg (fun w => z (h1.mp w)), Int.add_zero]
theorem ts_1 (hu : TaD u) {kk c : Nat} (hk : kk < 16) (hc : c < 300) (hG : CG I xs q th X) : ∀ (k t : Nat) (J : jI), t + k = 12 → tsM I xs q u t k J (u kk 1) c = J (u kk 1) c + sT (f1 (kk : Int) c) th X (kk : Int) t k
  | 0, t, J, _ => by simp [tsM, sT]
  | k + 1, t, J, ht => by
    obtain ⟨h1, h2⟩ := hG t (by omega)
    simp only [tsM, sT]
    rw [ts_1 hu hk hc hG k (t + 1) _ (by omega), ← Int.add_assoc]
    congr 1
    by_cases z : th t ≠ 0
    · rw [if_pos z, if_pos (h1.mpr z), (h2 z).1]
      exact tg_1 hu hk hc (h2 z).2 _ 0 J (by omega)
    · rw [if_neg z, if_neg (fun w => z (h1.mp w)), Int.add_zero]
theorem ta_0 (hu : TaD u) {kk c : Nat} (hk : kk < 16) (hc : c < 3) (hG : CG I xs q th X) : taM I xs q u (u kk 0) c = sT (f0 (kk : Int) c) th X (kk : Int) 0 12 := by
  unfold taM
  rw [ts_0 hu hk hc hG 12 0 _ (by omega), (clM_0 hu 16 (by omega) kk hk).1 c hc, Int.zero_add]
theorem ta_1 (hu : TaD u) {kk c : Nat} (hk : kk < 16) (hc : c < 300) (hG : CG I xs q th X) : taM I xs q u (u kk 1) c = sT (f1 (kk : Int) c) th X (kk : Int) 0 12 := by
  unfold taM
  rw [ts_1 hu hk hc hG 12 0 _ (by omega), (clM_0 hu 16 (by omega) kk hk).2 c hc, Int.zero_add]
/-! sums are linear -/
theorem sG_cg {f g : Int → Int → Int → Int} {x : TX} {kd : Int} (h : ∀ b c, f b (jb (kd = 15)) c = g b (jb (kd = 15)) c) : ∀ (k i : Nat), sG f x kd i k = sG g x kd i k
  | 0, i => rfl
  | k + 1, i => by simp only [sG]; rw [h, sG_cg h k (i + 1)]
theorem sT_cg {f g : Int → Int → Int → Int} {kd : Int} (h : ∀ b c, f b (jb (kd = 15)) c = g b (jb (kd = 15)) c) : ∀ (k t : Nat), sT f th X kd t k = sT g th X kd t k
  | 0, t => rfl
  | k + 1, t => by simp only [sT]; rw [sG_cg h, sT_cg h k (t + 1)]
theorem sG_add {f g : Int → Int → Int → Int} {x : TX} {kd : Int} : ∀ (k i : Nat), sG (fun b p c => f b p c + g b p c) x kd i k = sG f x kd i k + sG g x kd i k
  | 0, i => rfl
  | k + 1, i => by simp only [sG]; rw [sG_add k (i + 1)]; split <;> omega
theorem sT_add {f g : Int → Int → Int → Int} {kd : Int} : ∀ (k t : Nat), sT (fun b p c => f b p c + g b p c) th X kd t k = sT f th X kd t k + sT g th X kd t k
  | 0, t => rfl
  | k + 1, t => by simp only [sT]; rw [sG_add, sT_add k (t + 1)]; split <;> omega
theorem sG_sub {f g : Int → Int → Int → Int} {x : TX} {kd : Int} : ∀ (k i : Nat), sG (fun b p c => f b p c - g b p c) x kd i k = sG f x kd i k - sG g x kd i k
  | 0, i => rfl
  | k + 1, i => by simp only [sG]; rw [sG_sub k (i + 1)]; split <;> omega
theorem sT_sub {f g : Int → Int → Int → Int} {kd : Int} : ∀ (k t : Nat), sT (fun b p c => f b p c - g b p c) th X kd t k = sT f th X kd t k - sT g th X kd t k
  | 0, t => rfl
  | k + 1, t => by simp only [sT]; rw [sG_sub, sT_sub k (t + 1)]; split <;> omega
theorem sG_zero {x : TX} {kd : Int} : ∀ (k i : Nat), sG (fun _ _ _ => 0) x kd i k = 0
  | 0, i => rfl
  | k + 1, i => by simp only [sG]; rw [sG_zero k (i + 1)]; split <;> rfl
theorem sT_zero {kd : Int} : ∀ (k t : Nat), sT (fun _ _ _ => 0) th X kd t k = 0
  | 0, t => rfl
  | k + 1, t => by simp only [sT]; rw [sG_zero, sT_zero k (t + 1)]; split <;> rfl
def bt (bits : Int) (t : Nat) : Prop := jAnd (jShr bits (t : Int)) 1 = 1
theorem f1_at {kd : Int} {t w c : Nat} (ht : t < 10) (hw : w < 10) (hc : c < 3) (bits p ch : Int) : f1 kd ((t * 10 + w) * 3 + c) bits p ch = if kepA kd (c : Int) ≠ ch ∧ jAnd (jShr bits (t : Int)) 1 = 1 ∧ jAnd (jShr bits (w : Int)) 1 = 1 then 1 else 0 := by
  unfold f1
  rw [show ((t * 10 + w) * 3 + c) % 3 = c by omega, show ((t * 10 + w) * 3 + c) / 3 / 10 = t by omega, show ((t * 10 + w) * 3 + c) / 3 % 10 = w by omega]
/-- the counts of the class are the sums over the gaps -/
theorem lnk_ok (hu : TaD u) {kk : Nat} (hk : kk < 16) (hG : CG I xs q th X) : LNK (fun f => sT f th X (kk : Int) 0 12) (taM I xs q u (u kk 0)) (taM I xs q u (u kk 1)) := by
  intro n a b y c l v
  show sT (fex (n : Int) (a : Int) (b : Int) (y : Int) (c : Int) (l : Int)) th X (kk : Int) 0 12 = _
  have hb3 : b < 3 ∧ c < 3 ∧ l < 3 := by unfold vld at v; omega
  -- wrong where the first TEST holds
  have eW : ∀ (t e : Nat), t < 10 → e < 3 → wWh (taM I xs q u (u kk 1)) (t : Int) (e : Int) = sT (f1 (kk : Int) ((t * 10 + t) * 3 + e)) th X (kk : Int) 0 12 := fun t e ht he => by
    unfold wWh
    rw [if_neg (by omega), show (((t : Int) * 10 + (t : Int)) * 3 + (e : Int)).toNat = (t * 10 + t) * 3 + e by omega, ta_1 hu hk (by omega) hG]
  have eB : ∀ (t w e : Nat), t < 10 → w < 10 → e < 3 → wBo (taM I xs q u (u kk 1)) (t : Int) (w : Int) (e : Int) = sT (f1 (kk : Int) ((t * 10 + w) * 3 + e)) th X (kk : Int) 0 12 := fun t w e ht hw he => by
    unfold wBo
    rw [if_neg (by omega), show (((t : Int) * 10 + (w : Int)) * 3 + (e : Int)).toNat = (t * 10 + w) * 3 + e by omega, ta_1 hu hk (by omega) hG]
  have eA : ∀ e : Nat, e < 3 → taM I xs q u (u kk 0) ((e : Int).toNat) = sT (f0 (kk : Int) e) th X (kk : Int) 0 12 := fun e he => by rw [Int.toNat_natCast, ta_0 hu hk he hG]
  have eR : ∀ bits : Int, rTl bits (jb (jb ((kk : Int) = 15) = 1)) (n : Int) (a : Int) (b : Int) (y : Int) (c : Int) (l : Int) = kepA (kk : Int) (habRow (n : Int) (a : Int) (b : Int) (y : Int) (c : Int) (l : Int) bits) := fun bits => by
    unfold rTl kepA
    by_cases z : (kk : Int) = 15
    · rw [← jb_t z, ← jb_t rfl]
      simp [z, and_comm]
    · rw [← jb_f z, ← jb_f (by decide)]
      simp [z]
  rcases v with ⟨rfl, rfl, rfl, rfl, rfl, hl⟩ | ⟨rfl, ha, hb, rfl, rfl, hl⟩ | ⟨rfl, ha, hb, hy, hya, hc, hl⟩
  · rw [show xOf 0 0 = -1 from rfl, show yOf 0 0 = -1 from rfl, wWh_m, wSe_m]
    unfold wLa
    rw [wWh_m, wSe_m, eA l hl]
    rw [sT_cg (f := fex ((0 : Nat) : Int) ((0 : Nat) : Int) ((0 : Nat) : Int) ((0 : Nat) : Int) ((0 : Nat) : Int) (l : Int)) (g := f0 (kk : Int) l)]
    · omega
    · intro bits ch
      unfold fex f0
      rw [eR]
      unfold habRow
      simp only [show ((0 : Nat) : Int) = 0 from rfl, gt_iff_lt, Int.lt_irrefl, false_and, if_false, show ¬ (1 : Int) < 0 by decide, ne_eq]
      by_cases z : ch = kepA (kk : Int) (l : Int)
      · rw [if_neg (by simp [z]), if_neg (by simp [z])]
      · rw [if_pos z, if_pos (fun w => z w.symm)]
  · rw [show xOf 1 a = (a : Int) from rfl, show yOf 1 0 = -1 from rfl, wSe_m]
    unfold wLa
    rw [wSe_m, eA l hl, eW a b ha hb, eW a l ha hl]
    rw [sT_cg (f := fex ((1 : Nat) : Int) (a : Int) (b : Int) ((0 : Nat) : Int) ((0 : Nat) : Int) (l : Int)) (g := fun u p w => f1 (kk : Int) ((a * 10 + a) * 3 + b) u p w + (f0 (kk : Int) l u p w - f1 (kk : Int) ((a * 10 + a) * 3 + l) u p w))]
    · rw [sT_add, sT_sub]; omega
    · intro bits ch
      rw [f1_at ha ha hb, f1_at ha ha hl]
      unfold fex f0
      rw [eR]
      by_cases z : jAnd (jShr bits (a : Int)) 1 = 1
      · rw [show habRow ((1 : Nat) : Int) (a : Int) (b : Int) ((0 : Nat) : Int) ((0 : Nat) : Int) (l : Int) bits = (b : Int) by unfold habRow; rw [if_pos ⟨by decide, z⟩]]
        simp only [z, and_true]
        generalize kepA (kk : Int) (b : Int) = B
        generalize kepA (kk : Int) (l : Int) = L
        (repeat' split) <;> omega
      · rw [show habRow ((1 : Nat) : Int) (a : Int) (b : Int) ((0 : Nat) : Int) ((0 : Nat) : Int) (l : Int) bits = (l : Int) by unfold habRow; rw [if_neg (fun w => z w.2), if_neg (fun w => absurd w.1 (by decide))]]
        simp only [z, and_false, if_false]
        generalize kepA (kk : Int) (l : Int) = L
        (repeat' split) <;> omega
  · rw [show xOf 2 a = (a : Int) from rfl, show yOf 2 y = (y : Int) from rfl]
    unfold wLa wSe
    rw [eA l hl, eW a b ha hb, eW a l ha hl, eW y c hy hc, eW y l hy hl, eB a y c ha hy hc, eB a y l ha hy hl]
    rw [sT_cg (f := fex ((2 : Nat) : Int) (a : Int) (b : Int) (y : Int) (c : Int) (l : Int)) (g := fun u p w => (f1 (kk : Int) ((a * 10 + a) * 3 + b) u p w + (f1 (kk : Int) ((y * 10 + y) * 3 + c) u p w - f1 (kk : Int) ((a * 10 + y) * 3 + c) u p w)) + ((f0 (kk : Int) l u p w - f1 (kk : Int) ((a * 10 + a) * 3 + l) u p w) - (f1 (kk : Int) ((y * 10 + y) * 3 + l) u p w - f1 (kk : Int) ((a * 10 + y) * 3 + l) u p w)))]
    · rw [sT_add, sT_add, sT_sub, sT_sub, sT_sub, sT_sub]
    · intro bits ch
      rw [f1_at ha ha hb, f1_at ha ha hl, f1_at hy hy hc, f1_at hy hy hl, f1_at ha hy hc, f1_at ha hy hl]
      unfold fex f0
      rw [eR]
      by_cases z : jAnd (jShr bits (a : Int)) 1 = 1
      · rw [show habRow ((2 : Nat) : Int) (a : Int) (b : Int) (y : Int) (c : Int) (l : Int) bits = (b : Int) by unfold habRow; rw [if_pos ⟨by decide, z⟩]]
        generalize kepA (kk : Int) (b : Int) = B
        generalize kepA (kk : Int) (c : Int) = C
        generalize kepA (kk : Int) (l : Int) = L
        by_cases z2 : jAnd (jShr bits (y : Int)) 1 = 1
        · simp only [z, z2, and_true]
          (repeat' split) <;> omega
        · simp only [z, z2, and_true, and_false, if_false]
          (repeat' split) <;> omega
      · by_cases z2 : jAnd (jShr bits (y : Int)) 1 = 1
        · rw [show habRow ((2 : Nat) : Int) (a : Int) (b : Int) (y : Int) (c : Int) (l : Int) bits = (c : Int) by unfold habRow; rw [if_neg (fun w => z w.2), if_pos ⟨by decide, z2⟩]]
          generalize kepA (kk : Int) (c : Int) = C
          generalize kepA (kk : Int) (l : Int) = L
          simp only [z, z2, and_true, and_false, false_and, if_false]
          (repeat' split) <;> omega
        · rw [show habRow ((2 : Nat) : Int) (a : Int) (b : Int) (y : Int) (c : Int) (l : Int) bits = (l : Int) by unfold habRow; rw [if_neg (fun w => z w.2), if_neg (fun w => z2 w.2)]]
          generalize kepA (kk : Int) (l : Int) = L
          simp only [z, z2, and_false, false_and, if_false]
          (repeat' split) <;> omega
end JLnk2
